theorem dX0_init_0 : decode cX0_init 0 = .ok (.aload_n 0, 1) := by decide +kernel
theorem dX0_init_1 : decode cX0_init 1 = .ok (.invokespecial 3, 3) := by decide +kernel
theorem dX0_init_4 : decode cX0_init 4 = .ok (.aload_n 0, 1) := by decide +kernel
theorem dX0_init_5 : decode cX0_init 5 = .ok (.iconst 4, 1) := by decide +kernel
theorem dX0_init_6 : decode cX0_init 6 = .ok (.putfield 9, 3) := by decide +kernel
theorem dX0_init_9 : decode cX0_init 9 = .ok (.aload_n 0, 1) := by decide +kernel
theorem dX0_init_10 : decode cX0_init 10 = .ok (.bipush 10, 2) := by decide +kernel
theorem dX0_init_12 : decode cX0_init 12 = .ok (.newarray .int, 2) := by decide +kernel
theorem dX0_init_14 : decode cX0_init 14 = .ok (.putfield 15, 3) := by decide +kernel
theorem dX0_init_17 : decode cX0_init 17 = .ok (.aload_n 0, 1) := by decide +kernel
theorem dX0_init_18 : decode cX0_init 18 = .ok (.bipush 7, 2) := by decide +kernel
theorem dX0_init_20 : decode cX0_init 20 = .ok (.newarray .int, 2) := by decide +kernel
theorem dX0_init_22 : decode cX0_init 22 = .ok (.putfield 19, 3) := by decide +kernel
theorem dX0_init_25 : decode cX0_init 25 = .ok (.aload_n 0, 1) := by decide +kernel
theorem dX0_init_26 : decode cX0_init 26 = .ok (.bipush 7, 2) := by decide +kernel
theorem dX0_init_28 : decode cX0_init 28 = .ok (.newarray .int, 2) := by decide +kernel
theorem dX0_init_30 : decode cX0_init 30 = .ok (.putfield 22, 3) := by decide +kernel
theorem dX0_init_33 : decode cX0_init 33 = .ok (.aload_n 0, 1) := by decide +kernel
theorem dX0_init_34 : decode cX0_init 34 = .ok (.bipush 7, 2) := by decide +kernel
theorem dX0_init_36 : decode cX0_init 36 = .ok (.newarray .int, 2) := by decide +kernel
theorem dX0_init_38 : decode cX0_init 38 = .ok (.putfield 25, 3) := by decide +kernel
theorem dX0_init_41 : decode cX0_init 41 = .ok (.aload_n 0, 1) := by decide +kernel
theorem dX0_init_42 : decode cX0_init 42 = .ok (.bipush 7, 2) := by decide +kernel
theorem dX0_init_44 : decode cX0_init 44 = .ok (.newarray .int, 2) := by decide +kernel
theorem dX0_init_46 : decode cX0_init 46 = .ok (.putfield 28, 3) := by decide +kernel
theorem dX0_init_49 : decode cX0_init 49 = .ok (.aload_n 0, 1) := by decide +kernel
theorem dX0_init_50 : decode cX0_init 50 = .ok (.bipush 7, 2) := by decide +kernel
theorem dX0_init_52 : decode cX0_init 52 = .ok (.newarray .int, 2) := by decide +kernel
theorem dX0_init_54 : decode cX0_init 54 = .ok (.putfield 31, 3) := by decide +kernel
theorem dX0_init_57 : decode cX0_init 57 = .ok (.aload_n 0, 1) := by decide +kernel
theorem dX0_init_58 : decode cX0_init 58 = .ok (.bipush 6, 2) := by decide +kernel
theorem dX0_init_60 : decode cX0_init 60 = .ok (.newarray .int, 2) := by decide +kernel
theorem dX0_init_62 : decode cX0_init 62 = .ok (.putfield 34, 3) := by decide +kernel
theorem dX0_init_65 : decode cX0_init 65 = .ok (.aload_n 0, 1) := by decide +kernel
theorem dX0_init_66 : decode cX0_init 66 = .ok (.bipush 6, 2) := by decide +kernel
theorem dX0_init_68 : decode cX0_init 68 = .ok (.newarray .int, 2) := by decide +kernel
theorem dX0_init_70 : decode cX0_init 70 = .ok (.putfield 37, 3) := by decide +kernel
theorem dX0_init_73 : decode cX0_init 73 = .ok (.aload_n 0, 1) := by decide +kernel
theorem dX0_init_74 : decode cX0_init 74 = .ok (.bipush 6, 2) := by decide +kernel
theorem dX0_init_76 : decode cX0_init 76 = .ok (.newarray .int, 2) := by decide +kernel
theorem dX0_init_78 : decode cX0_init 78 = .ok (.putfield 40, 3) := by decide +kernel
theorem dX0_init_81 : decode cX0_init 81 = .ok (.aload_n 0, 1) := by decide +kernel
theorem dX0_init_82 : decode cX0_init 82 = .ok (.bipush 6, 2) := by decide +kernel
theorem dX0_init_84 : decode cX0_init 84 = .ok (.newarray .int, 2) := by decide +kernel
theorem dX0_init_86 : decode cX0_init 86 = .ok (.putfield 43, 3) := by decide +kernel
theorem dX0_init_89 : decode cX0_init 89 = .ok (.aload_n 0, 1) := by decide +kernel
theorem dX0_init_90 : decode cX0_init 90 = .ok (.new 46, 3) := by decide +kernel
theorem dX0_init_93 : decode cX0_init 93 = .ok (.dup, 1) := by decide +kernel
theorem dX0_init_94 : decode cX0_init 94 = .ok (.invokespecial 48, 3) := by decide +kernel
theorem dX0_init_97 : decode cX0_init 97 = .ok (.putfield 49, 3) := by decide +kernel
theorem dX0_init_100 : decode cX0_init 100 = .ok (.aload_n 0, 1) := by decide +kernel
theorem dX0_init_101 : decode cX0_init 101 = .ok (.bipush 8, 2) := by decide +kernel
theorem dX0_init_103 : decode cX0_init 103 = .ok (.anewarray 46, 3) := by decide +kernel
theorem dX0_init_106 : decode cX0_init 106 = .ok (.putfield 53, 3) := by decide +kernel
theorem dX0_init_109 : decode cX0_init 109 = .ok (.iconst 0, 1) := by decide +kernel
theorem dX0_init_110 : decode cX0_init 110 = .ok (.istore_n 1, 1) := by decide +kernel
theorem dX0_init_111 : decode cX0_init 111 = .ok (.iload_n 1, 1) := by decide +kernel
theorem dX0_init_112 : decode cX0_init 112 = .ok (.bipush 8, 2) := by decide +kernel
theorem dX0_init_114 : decode cX0_init 114 = .ok (.if_icmp .ge 22, 3) := by decide +kernel
theorem dX0_init_117 : decode cX0_init 117 = .ok (.aload_n 0, 1) := by decide +kernel
theorem dX0_init_118 : decode cX0_init 118 = .ok (.getfield 53, 3) := by decide +kernel
theorem dX0_init_121 : decode cX0_init 121 = .ok (.iload_n 1, 1) := by decide +kernel
theorem dX0_init_122 : decode cX0_init 122 = .ok (.new 46, 3) := by decide +kernel
theorem dX0_init_125 : decode cX0_init 125 = .ok (.dup, 1) := by decide +kernel
theorem dX0_init_126 : decode cX0_init 126 = .ok (.invokespecial 48, 3) := by decide +kernel
theorem dX0_init_129 : decode cX0_init 129 = .ok (.aastore, 1) := by decide +kernel
theorem dX0_init_130 : decode cX0_init 130 = .ok (.iinc 1 1, 3) := by decide +kernel
theorem dX0_init_133 : decode cX0_init 133 = .ok (.goto (-22), 3) := by decide +kernel
theorem dX0_init_136 : decode cX0_init 136 = .ok (.return_, 1) := by decide +kernel
theorem dX0_startAnew_0 : decode cX0_startAnew 0 = .ok (.aload_n 0, 1) := by decide +kernel
theorem dX0_startAnew_1 : decode cX0_startAnew 1 = .ok (.iconst 4, 1) := by decide +kernel
theorem dX0_startAnew_2 : decode cX0_startAnew 2 = .ok (.putfield 9, 3) := by decide +kernel
theorem dX0_startAnew_5 : decode cX0_startAnew 5 = .ok (.iconst 0, 1) := by decide +kernel
theorem dX0_startAnew_6 : decode cX0_startAnew 6 = .ok (.istore_n 1, 1) := by decide +kernel
theorem dX0_startAnew_7 : decode cX0_startAnew 7 = .ok (.iload_n 1, 1) := by decide +kernel
theorem dX0_startAnew_8 : decode cX0_startAnew 8 = .ok (.bipush 10, 2) := by decide +kernel
theorem dX0_startAnew_10 : decode cX0_startAnew 10 = .ok (.if_icmp .ge 16, 3) := by decide +kernel
theorem dX0_startAnew_13 : decode cX0_startAnew 13 = .ok (.aload_n 0, 1) := by decide +kernel
theorem dX0_startAnew_14 : decode cX0_startAnew 14 = .ok (.getfield 15, 3) := by decide +kernel
theorem dX0_startAnew_17 : decode cX0_startAnew 17 = .ok (.iload_n 1, 1) := by decide +kernel
theorem dX0_startAnew_18 : decode cX0_startAnew 18 = .ok (.iconst 0, 1) := by decide +kernel
theorem dX0_startAnew_19 : decode cX0_startAnew 19 = .ok (.iastore, 1) := by decide +kernel
theorem dX0_startAnew_20 : decode cX0_startAnew 20 = .ok (.iinc 1 1, 3) := by decide +kernel
theorem dX0_startAnew_23 : decode cX0_startAnew 23 = .ok (.goto (-16), 3) := by decide +kernel
theorem dX0_startAnew_26 : decode cX0_startAnew 26 = .ok (.aload_n 0, 1) := by decide +kernel
theorem dX0_startAnew_27 : decode cX0_startAnew 27 = .ok (.iconst 0, 1) := by decide +kernel
theorem dX0_startAnew_28 : decode cX0_startAnew 28 = .ok (.putfield 57, 3) := by decide +kernel
theorem dX0_startAnew_31 : decode cX0_startAnew 31 = .ok (.aload_n 0, 1) := by decide +kernel
theorem dX0_startAnew_32 : decode cX0_startAnew 32 = .ok (.iconst 0, 1) := by decide +kernel
theorem dX0_startAnew_33 : decode cX0_startAnew 33 = .ok (.putfield 60, 3) := by decide +kernel
theorem dX0_startAnew_36 : decode cX0_startAnew 36 = .ok (.aload_n 0, 1) := by decide +kernel
theorem dX0_startAnew_37 : decode cX0_startAnew 37 = .ok (.getfield 49, 3) := by decide +kernel
theorem dX0_startAnew_40 : decode cX0_startAnew 40 = .ok (.invokevirtual 63, 3) := by decide +kernel
theorem dX0_startAnew_43 : decode cX0_startAnew 43 = .ok (.aload_n 0, 1) := by decide +kernel
theorem dX0_startAnew_44 : decode cX0_startAnew 44 = .ok (.iconst 0, 1) := by decide +kernel
theorem dX0_startAnew_45 : decode cX0_startAnew 45 = .ok (.putfield 66, 3) := by decide +kernel
theorem dX0_startAnew_48 : decode cX0_startAnew 48 = .ok (.return_, 1) := by decide +kernel
theorem dX0_take_0 : decode cX0_take 0 = .ok (.aload_n 0, 1) := by decide +kernel
theorem dX0_take_1 : decode cX0_take 1 = .ok (.aload_n 1, 1) := by decide +kernel
theorem dX0_take_2 : decode cX0_take 2 = .ok (.getfield 9, 3) := by decide +kernel
theorem dX0_take_5 : decode cX0_take 5 = .ok (.putfield 9, 3) := by decide +kernel
theorem dX0_take_8 : decode cX0_take 8 = .ok (.aload_n 1, 1) := by decide +kernel
theorem dX0_take_9 : decode cX0_take 9 = .ok (.getfield 15, 3) := by decide +kernel
theorem dX0_take_12 : decode cX0_take 12 = .ok (.iconst 0, 1) := by decide +kernel
theorem dX0_take_13 : decode cX0_take 13 = .ok (.aload_n 0, 1) := by decide +kernel
theorem dX0_take_14 : decode cX0_take 14 = .ok (.getfield 15, 3) := by decide +kernel
theorem dX0_take_17 : decode cX0_take 17 = .ok (.iconst 0, 1) := by decide +kernel
theorem dX0_take_18 : decode cX0_take 18 = .ok (.bipush 10, 2) := by decide +kernel
theorem dX0_take_20 : decode cX0_take 20 = .ok (.invokestatic 69, 3) := by decide +kernel
theorem dX0_take_23 : decode cX0_take 23 = .ok (.aload_n 0, 1) := by decide +kernel
theorem dX0_take_24 : decode cX0_take 24 = .ok (.aload_n 1, 1) := by decide +kernel
theorem dX0_take_25 : decode cX0_take 25 = .ok (.getfield 57, 3) := by decide +kernel
theorem dX0_take_28 : decode cX0_take 28 = .ok (.putfield 57, 3) := by decide +kernel
theorem dX0_take_31 : decode cX0_take 31 = .ok (.aload_n 1, 1) := by decide +kernel
theorem dX0_take_32 : decode cX0_take 32 = .ok (.getfield 19, 3) := by decide +kernel
theorem dX0_take_35 : decode cX0_take 35 = .ok (.iconst 0, 1) := by decide +kernel
theorem dX0_take_36 : decode cX0_take 36 = .ok (.aload_n 0, 1) := by decide +kernel
theorem dX0_take_37 : decode cX0_take 37 = .ok (.getfield 19, 3) := by decide +kernel
theorem dX0_take_40 : decode cX0_take 40 = .ok (.iconst 0, 1) := by decide +kernel
theorem dX0_take_41 : decode cX0_take 41 = .ok (.bipush 7, 2) := by decide +kernel
theorem dX0_take_43 : decode cX0_take 43 = .ok (.invokestatic 69, 3) := by decide +kernel
theorem dX0_take_46 : decode cX0_take 46 = .ok (.aload_n 1, 1) := by decide +kernel
theorem dX0_take_47 : decode cX0_take 47 = .ok (.getfield 22, 3) := by decide +kernel
theorem dX0_take_50 : decode cX0_take 50 = .ok (.iconst 0, 1) := by decide +kernel
theorem dX0_take_51 : decode cX0_take 51 = .ok (.aload_n 0, 1) := by decide +kernel
theorem dX0_take_52 : decode cX0_take 52 = .ok (.getfield 22, 3) := by decide +kernel
theorem dX0_take_55 : decode cX0_take 55 = .ok (.iconst 0, 1) := by decide +kernel
theorem dX0_take_56 : decode cX0_take 56 = .ok (.bipush 7, 2) := by decide +kernel
theorem dX0_take_58 : decode cX0_take 58 = .ok (.invokestatic 69, 3) := by decide +kernel
theorem dX0_take_61 : decode cX0_take 61 = .ok (.aload_n 1, 1) := by decide +kernel
theorem dX0_take_62 : decode cX0_take 62 = .ok (.getfield 25, 3) := by decide +kernel
theorem dX0_take_65 : decode cX0_take 65 = .ok (.iconst 0, 1) := by decide +kernel
theorem dX0_take_66 : decode cX0_take 66 = .ok (.aload_n 0, 1) := by decide +kernel
theorem dX0_take_67 : decode cX0_take 67 = .ok (.getfield 25, 3) := by decide +kernel
theorem dX0_take_70 : decode cX0_take 70 = .ok (.iconst 0, 1) := by decide +kernel
theorem dX0_take_71 : decode cX0_take 71 = .ok (.bipush 7, 2) := by decide +kernel
theorem dX0_take_73 : decode cX0_take 73 = .ok (.invokestatic 69, 3) := by decide +kernel
theorem dX0_take_76 : decode cX0_take 76 = .ok (.aload_n 1, 1) := by decide +kernel
theorem dX0_take_77 : decode cX0_take 77 = .ok (.getfield 28, 3) := by decide +kernel
theorem dX0_take_80 : decode cX0_take 80 = .ok (.iconst 0, 1) := by decide +kernel
theorem dX0_take_81 : decode cX0_take 81 = .ok (.aload_n 0, 1) := by decide +kernel
theorem dX0_take_82 : decode cX0_take 82 = .ok (.getfield 28, 3) := by decide +kernel
theorem dX0_take_85 : decode cX0_take 85 = .ok (.iconst 0, 1) := by decide +kernel
theorem dX0_take_86 : decode cX0_take 86 = .ok (.bipush 7, 2) := by decide +kernel
theorem dX0_take_88 : decode cX0_take 88 = .ok (.invokestatic 69, 3) := by decide +kernel
theorem dX0_take_91 : decode cX0_take 91 = .ok (.aload_n 1, 1) := by decide +kernel
theorem dX0_take_92 : decode cX0_take 92 = .ok (.getfield 31, 3) := by decide +kernel
theorem dX0_take_95 : decode cX0_take 95 = .ok (.iconst 0, 1) := by decide +kernel
theorem dX0_take_96 : decode cX0_take 96 = .ok (.aload_n 0, 1) := by decide +kernel
theorem dX0_take_97 : decode cX0_take 97 = .ok (.getfield 31, 3) := by decide +kernel
theorem dX0_take_100 : decode cX0_take 100 = .ok (.iconst 0, 1) := by decide +kernel
theorem dX0_take_101 : decode cX0_take 101 = .ok (.bipush 7, 2) := by decide +kernel
theorem dX0_take_103 : decode cX0_take 103 = .ok (.invokestatic 69, 3) := by decide +kernel
theorem dX0_take_106 : decode cX0_take 106 = .ok (.aload_n 0, 1) := by decide +kernel
theorem dX0_take_107 : decode cX0_take 107 = .ok (.aload_n 1, 1) := by decide +kernel
theorem dX0_take_108 : decode cX0_take 108 = .ok (.getfield 60, 3) := by decide +kernel
theorem dX0_take_111 : decode cX0_take 111 = .ok (.putfield 60, 3) := by decide +kernel
theorem dX0_take_114 : decode cX0_take 114 = .ok (.aload_n 1, 1) := by decide +kernel
theorem dX0_take_115 : decode cX0_take 115 = .ok (.getfield 34, 3) := by decide +kernel
theorem dX0_take_118 : decode cX0_take 118 = .ok (.iconst 0, 1) := by decide +kernel
theorem dX0_take_119 : decode cX0_take 119 = .ok (.aload_n 0, 1) := by decide +kernel
theorem dX0_take_120 : decode cX0_take 120 = .ok (.getfield 34, 3) := by decide +kernel
theorem dX0_take_123 : decode cX0_take 123 = .ok (.iconst 0, 1) := by decide +kernel
theorem dX0_take_124 : decode cX0_take 124 = .ok (.bipush 6, 2) := by decide +kernel
theorem dX0_take_126 : decode cX0_take 126 = .ok (.invokestatic 69, 3) := by decide +kernel
theorem dX0_take_129 : decode cX0_take 129 = .ok (.aload_n 1, 1) := by decide +kernel
theorem dX0_take_130 : decode cX0_take 130 = .ok (.getfield 37, 3) := by decide +kernel
theorem dX0_take_133 : decode cX0_take 133 = .ok (.iconst 0, 1) := by decide +kernel
theorem dX0_take_134 : decode cX0_take 134 = .ok (.aload_n 0, 1) := by decide +kernel
theorem dX0_take_135 : decode cX0_take 135 = .ok (.getfield 37, 3) := by decide +kernel
theorem dX0_take_138 : decode cX0_take 138 = .ok (.iconst 0, 1) := by decide +kernel
theorem dX0_take_139 : decode cX0_take 139 = .ok (.bipush 6, 2) := by decide +kernel
theorem dX0_take_141 : decode cX0_take 141 = .ok (.invokestatic 69, 3) := by decide +kernel
theorem dX0_take_144 : decode cX0_take 144 = .ok (.aload_n 1, 1) := by decide +kernel
theorem dX0_take_145 : decode cX0_take 145 = .ok (.getfield 40, 3) := by decide +kernel
theorem dX0_take_148 : decode cX0_take 148 = .ok (.iconst 0, 1) := by decide +kernel
theorem dX0_take_149 : decode cX0_take 149 = .ok (.aload_n 0, 1) := by decide +kernel
theorem dX0_take_150 : decode cX0_take 150 = .ok (.getfield 40, 3) := by decide +kernel
theorem dX0_take_153 : decode cX0_take 153 = .ok (.iconst 0, 1) := by decide +kernel
theorem dX0_take_154 : decode cX0_take 154 = .ok (.bipush 6, 2) := by decide +kernel
theorem dX0_take_156 : decode cX0_take 156 = .ok (.invokestatic 69, 3) := by decide +kernel
theorem dX0_take_159 : decode cX0_take 159 = .ok (.aload_n 1, 1) := by decide +kernel
theorem dX0_take_160 : decode cX0_take 160 = .ok (.getfield 43, 3) := by decide +kernel
theorem dX0_take_163 : decode cX0_take 163 = .ok (.iconst 0, 1) := by decide +kernel
theorem dX0_take_164 : decode cX0_take 164 = .ok (.aload_n 0, 1) := by decide +kernel
theorem dX0_take_165 : decode cX0_take 165 = .ok (.getfield 43, 3) := by decide +kernel
theorem dX0_take_168 : decode cX0_take 168 = .ok (.iconst 0, 1) := by decide +kernel
theorem dX0_take_169 : decode cX0_take 169 = .ok (.bipush 6, 2) := by decide +kernel
theorem dX0_take_171 : decode cX0_take 171 = .ok (.invokestatic 69, 3) := by decide +kernel
theorem dX0_take_174 : decode cX0_take 174 = .ok (.aload_n 0, 1) := by decide +kernel
theorem dX0_take_175 : decode cX0_take 175 = .ok (.getfield 49, 3) := by decide +kernel
theorem dX0_take_178 : decode cX0_take 178 = .ok (.aload_n 1, 1) := by decide +kernel
theorem dX0_take_179 : decode cX0_take 179 = .ok (.getfield 49, 3) := by decide +kernel
theorem dX0_take_182 : decode cX0_take 182 = .ok (.invokevirtual 75, 3) := by decide +kernel
theorem dX0_take_185 : decode cX0_take 185 = .ok (.aload_n 0, 1) := by decide +kernel
theorem dX0_take_186 : decode cX0_take 186 = .ok (.aload_n 1, 1) := by decide +kernel
theorem dX0_take_187 : decode cX0_take 187 = .ok (.getfield 66, 3) := by decide +kernel
theorem dX0_take_190 : decode cX0_take 190 = .ok (.putfield 66, 3) := by decide +kernel
theorem dX0_take_193 : decode cX0_take 193 = .ok (.iconst 0, 1) := by decide +kernel
theorem dX0_take_194 : decode cX0_take 194 = .ok (.istore_n 2, 1) := by decide +kernel
theorem dX0_take_195 : decode cX0_take 195 = .ok (.iload_n 2, 1) := by decide +kernel
theorem dX0_take_196 : decode cX0_take 196 = .ok (.bipush 8, 2) := by decide +kernel
theorem dX0_take_198 : decode cX0_take 198 = .ok (.if_icmp .ge 24, 3) := by decide +kernel
theorem dX0_take_201 : decode cX0_take 201 = .ok (.aload_n 0, 1) := by decide +kernel
theorem dX0_take_202 : decode cX0_take 202 = .ok (.getfield 53, 3) := by decide +kernel
theorem dX0_take_205 : decode cX0_take 205 = .ok (.iload_n 2, 1) := by decide +kernel
theorem dX0_take_206 : decode cX0_take 206 = .ok (.aaload, 1) := by decide +kernel
theorem dX0_take_207 : decode cX0_take 207 = .ok (.aload_n 1, 1) := by decide +kernel
theorem dX0_take_208 : decode cX0_take 208 = .ok (.getfield 53, 3) := by decide +kernel
theorem dX0_take_211 : decode cX0_take 211 = .ok (.iload_n 2, 1) := by decide +kernel
theorem dX0_take_212 : decode cX0_take 212 = .ok (.aaload, 1) := by decide +kernel
theorem dX0_take_213 : decode cX0_take 213 = .ok (.invokevirtual 75, 3) := by decide +kernel
theorem dX0_take_216 : decode cX0_take 216 = .ok (.iinc 2 1, 3) := by decide +kernel
theorem dX0_take_219 : decode cX0_take 219 = .ok (.goto (-24), 3) := by decide +kernel
theorem dX0_take_222 : decode cX0_take 222 = .ok (.return_, 1) := by decide +kernel
theorem dX0_has_0 : decode cX0_has 0 = .ok (.iload_n 1, 1) := by decide +kernel
theorem dX0_has_1 : decode cX0_has 1 = .ok (.ifCond .lt 15, 3) := by decide +kernel
theorem dX0_has_4 : decode cX0_has 4 = .ok (.iload_n 1, 1) := by decide +kernel
theorem dX0_has_5 : decode cX0_has 5 = .ok (.aload_n 0, 1) := by decide +kernel
theorem dX0_has_6 : decode cX0_has 6 = .ok (.getfield 57, 3) := by decide +kernel
theorem dX0_has_9 : decode cX0_has 9 = .ok (.if_icmp .ge 7, 3) := by decide +kernel
theorem dX0_has_12 : decode cX0_has 12 = .ok (.iconst 1, 1) := by decide +kernel
theorem dX0_has_13 : decode cX0_has 13 = .ok (.goto 4, 3) := by decide +kernel
theorem dX0_has_16 : decode cX0_has 16 = .ok (.iconst 0, 1) := by decide +kernel
theorem dX0_has_17 : decode cX0_has 17 = .ok (.ireturn, 1) := by decide +kernel
theorem dX0_hasTwo_0 : decode cX0_hasTwo 0 = .ok (.aload_n 0, 1) := by decide +kernel
theorem dX0_hasTwo_1 : decode cX0_hasTwo 1 = .ok (.iload_n 1, 1) := by decide +kernel
theorem dX0_hasTwo_2 : decode cX0_hasTwo 2 = .ok (.invokevirtual 79, 3) := by decide +kernel
theorem dX0_hasTwo_5 : decode cX0_hasTwo 5 = .ok (.ifCond .eq 20, 3) := by decide +kernel
theorem dX0_hasTwo_8 : decode cX0_hasTwo 8 = .ok (.aload_n 0, 1) := by decide +kernel
theorem dX0_hasTwo_9 : decode cX0_hasTwo 9 = .ok (.iload_n 2, 1) := by decide +kernel
theorem dX0_hasTwo_10 : decode cX0_hasTwo 10 = .ok (.invokevirtual 79, 3) := by decide +kernel
theorem dX0_hasTwo_13 : decode cX0_hasTwo 13 = .ok (.ifCond .eq 12, 3) := by decide +kernel
theorem dX0_hasTwo_16 : decode cX0_hasTwo 16 = .ok (.iload_n 1, 1) := by decide +kernel
theorem dX0_hasTwo_17 : decode cX0_hasTwo 17 = .ok (.iload_n 2, 1) := by decide +kernel
theorem dX0_hasTwo_18 : decode cX0_hasTwo 18 = .ok (.if_icmp .eq 7, 3) := by decide +kernel
theorem dX0_hasTwo_21 : decode cX0_hasTwo 21 = .ok (.iconst 1, 1) := by decide +kernel
theorem dX0_hasTwo_22 : decode cX0_hasTwo 22 = .ok (.goto 4, 3) := by decide +kernel
theorem dX0_hasTwo_25 : decode cX0_hasTwo 25 = .ok (.iconst 0, 1) := by decide +kernel
theorem dX0_hasTwo_26 : decode cX0_hasTwo 26 = .ok (.ireturn, 1) := by decide +kernel
theorem dX0_addIdea_0 : decode cX0_addIdea 0 = .ok (.aload_n 0, 1) := by decide +kernel
theorem dX0_addIdea_1 : decode cX0_addIdea 1 = .ok (.getfield 57, 3) := by decide +kernel
theorem dX0_addIdea_4 : decode cX0_addIdea 4 = .ok (.bipush 7, 2) := by decide +kernel
theorem dX0_addIdea_6 : decode cX0_addIdea 6 = .ok (.if_icmp .lt 4, 3) := by decide +kernel
theorem dX0_addIdea_9 : decode cX0_addIdea 9 = .ok (.return_, 1) := by decide +kernel
theorem dX0_addIdea_10 : decode cX0_addIdea 10 = .ok (.aload_n 0, 1) := by decide +kernel
theorem dX0_addIdea_11 : decode cX0_addIdea 11 = .ok (.getfield 19, 3) := by decide +kernel
theorem dX0_addIdea_14 : decode cX0_addIdea 14 = .ok (.aload_n 0, 1) := by decide +kernel
theorem dX0_addIdea_15 : decode cX0_addIdea 15 = .ok (.getfield 57, 3) := by decide +kernel
theorem dX0_addIdea_18 : decode cX0_addIdea 18 = .ok (.iload_n 1, 1) := by decide +kernel
theorem dX0_addIdea_19 : decode cX0_addIdea 19 = .ok (.iastore, 1) := by decide +kernel
theorem dX0_addIdea_20 : decode cX0_addIdea 20 = .ok (.aload_n 0, 1) := by decide +kernel
theorem dX0_addIdea_21 : decode cX0_addIdea 21 = .ok (.getfield 22, 3) := by decide +kernel
theorem dX0_addIdea_24 : decode cX0_addIdea 24 = .ok (.aload_n 0, 1) := by decide +kernel
theorem dX0_addIdea_25 : decode cX0_addIdea 25 = .ok (.getfield 57, 3) := by decide +kernel
theorem dX0_addIdea_28 : decode cX0_addIdea 28 = .ok (.iload_n 2, 1) := by decide +kernel
theorem dX0_addIdea_29 : decode cX0_addIdea 29 = .ok (.iastore, 1) := by decide +kernel
theorem dX0_addIdea_30 : decode cX0_addIdea 30 = .ok (.aload_n 0, 1) := by decide +kernel
theorem dX0_addIdea_31 : decode cX0_addIdea 31 = .ok (.getfield 25, 3) := by decide +kernel
theorem dX0_addIdea_34 : decode cX0_addIdea 34 = .ok (.aload_n 0, 1) := by decide +kernel
theorem dX0_addIdea_35 : decode cX0_addIdea 35 = .ok (.getfield 57, 3) := by decide +kernel
theorem dX0_addIdea_38 : decode cX0_addIdea 38 = .ok (.iload_n 3, 1) := by decide +kernel
theorem dX0_addIdea_39 : decode cX0_addIdea 39 = .ok (.iastore, 1) := by decide +kernel
theorem dX0_addIdea_40 : decode cX0_addIdea 40 = .ok (.aload_n 0, 1) := by decide +kernel
theorem dX0_addIdea_41 : decode cX0_addIdea 41 = .ok (.getfield 28, 3) := by decide +kernel
theorem dX0_addIdea_44 : decode cX0_addIdea 44 = .ok (.aload_n 0, 1) := by decide +kernel
theorem dX0_addIdea_45 : decode cX0_addIdea 45 = .ok (.getfield 57, 3) := by decide +kernel
theorem dX0_addIdea_48 : decode cX0_addIdea 48 = .ok (.iload 4, 2) := by decide +kernel
theorem dX0_addIdea_50 : decode cX0_addIdea 50 = .ok (.iastore, 1) := by decide +kernel
theorem dX0_addIdea_51 : decode cX0_addIdea 51 = .ok (.aload_n 0, 1) := by decide +kernel
theorem dX0_addIdea_52 : decode cX0_addIdea 52 = .ok (.getfield 31, 3) := by decide +kernel
theorem dX0_addIdea_55 : decode cX0_addIdea 55 = .ok (.aload_n 0, 1) := by decide +kernel
theorem dX0_addIdea_56 : decode cX0_addIdea 56 = .ok (.getfield 57, 3) := by decide +kernel
theorem dX0_addIdea_59 : decode cX0_addIdea 59 = .ok (.iconst 0, 1) := by decide +kernel
theorem dX0_addIdea_60 : decode cX0_addIdea 60 = .ok (.iastore, 1) := by decide +kernel
theorem dX0_addIdea_61 : decode cX0_addIdea 61 = .ok (.aload_n 0, 1) := by decide +kernel
theorem dX0_addIdea_62 : decode cX0_addIdea 62 = .ok (.dup, 1) := by decide +kernel
theorem dX0_addIdea_63 : decode cX0_addIdea 63 = .ok (.getfield 57, 3) := by decide +kernel
theorem dX0_addIdea_66 : decode cX0_addIdea 66 = .ok (.iconst 1, 1) := by decide +kernel
theorem dX0_addIdea_67 : decode cX0_addIdea 67 = .ok (.iadd, 1) := by decide +kernel
theorem dX0_addIdea_68 : decode cX0_addIdea 68 = .ok (.putfield 57, 3) := by decide +kernel
theorem dX0_addIdea_71 : decode cX0_addIdea 71 = .ok (.return_, 1) := by decide +kernel
theorem dX0_setQuarrel_0 : decode cX0_setQuarrel 0 = .ok (.aload_n 0, 1) := by decide +kernel
theorem dX0_setQuarrel_1 : decode cX0_setQuarrel 1 = .ok (.iload_n 1, 1) := by decide +kernel
theorem dX0_setQuarrel_2 : decode cX0_setQuarrel 2 = .ok (.iload_n 2, 1) := by decide +kernel
theorem dX0_setQuarrel_3 : decode cX0_setQuarrel 3 = .ok (.invokevirtual 83, 3) := by decide +kernel
theorem dX0_setQuarrel_6 : decode cX0_setQuarrel 6 = .ok (.ifCond .ne 4, 3) := by decide +kernel
theorem dX0_setQuarrel_9 : decode cX0_setQuarrel 9 = .ok (.return_, 1) := by decide +kernel
theorem dX0_setQuarrel_10 : decode cX0_setQuarrel 10 = .ok (.aload_n 0, 1) := by decide +kernel
theorem dX0_setQuarrel_11 : decode cX0_setQuarrel 11 = .ok (.getfield 31, 3) := by decide +kernel
theorem dX0_setQuarrel_14 : decode cX0_setQuarrel 14 = .ok (.iload_n 1, 1) := by decide +kernel
theorem dX0_setQuarrel_15 : decode cX0_setQuarrel 15 = .ok (.iload_n 3, 1) := by decide +kernel
theorem dX0_setQuarrel_16 : decode cX0_setQuarrel 16 = .ok (.ifCond .eq 16, 3) := by decide +kernel
theorem dX0_setQuarrel_19 : decode cX0_setQuarrel 19 = .ok (.aload_n 0, 1) := by decide +kernel
theorem dX0_setQuarrel_20 : decode cX0_setQuarrel 20 = .ok (.getfield 31, 3) := by decide +kernel
theorem dX0_setQuarrel_23 : decode cX0_setQuarrel 23 = .ok (.iload_n 1, 1) := by decide +kernel
theorem dX0_setQuarrel_24 : decode cX0_setQuarrel 24 = .ok (.iaload, 1) := by decide +kernel
theorem dX0_setQuarrel_25 : decode cX0_setQuarrel 25 = .ok (.iconst 1, 1) := by decide +kernel
theorem dX0_setQuarrel_26 : decode cX0_setQuarrel 26 = .ok (.iload_n 2, 1) := by decide +kernel
theorem dX0_setQuarrel_27 : decode cX0_setQuarrel 27 = .ok (.ishl, 1) := by decide +kernel
theorem dX0_setQuarrel_28 : decode cX0_setQuarrel 28 = .ok (.ior, 1) := by decide +kernel
theorem dX0_setQuarrel_29 : decode cX0_setQuarrel 29 = .ok (.goto 15, 3) := by decide +kernel
theorem dX0_setQuarrel_32 : decode cX0_setQuarrel 32 = .ok (.aload_n 0, 1) := by decide +kernel
theorem dX0_setQuarrel_33 : decode cX0_setQuarrel 33 = .ok (.getfield 31, 3) := by decide +kernel
theorem dX0_setQuarrel_36 : decode cX0_setQuarrel 36 = .ok (.iload_n 1, 1) := by decide +kernel
theorem dX0_setQuarrel_37 : decode cX0_setQuarrel 37 = .ok (.iaload, 1) := by decide +kernel
theorem dX0_setQuarrel_38 : decode cX0_setQuarrel 38 = .ok (.iconst 1, 1) := by decide +kernel
theorem dX0_setQuarrel_39 : decode cX0_setQuarrel 39 = .ok (.iload_n 2, 1) := by decide +kernel
theorem dX0_setQuarrel_40 : decode cX0_setQuarrel 40 = .ok (.ishl, 1) := by decide +kernel
theorem dX0_setQuarrel_41 : decode cX0_setQuarrel 41 = .ok (.iconst (-1), 1) := by decide +kernel
theorem dX0_setQuarrel_42 : decode cX0_setQuarrel 42 = .ok (.ixor, 1) := by decide +kernel
theorem dX0_setQuarrel_43 : decode cX0_setQuarrel 43 = .ok (.iand, 1) := by decide +kernel
theorem dX0_setQuarrel_44 : decode cX0_setQuarrel 44 = .ok (.iastore, 1) := by decide +kernel
theorem dX0_setQuarrel_45 : decode cX0_setQuarrel 45 = .ok (.aload_n 0, 1) := by decide +kernel
theorem dX0_setQuarrel_46 : decode cX0_setQuarrel 46 = .ok (.getfield 31, 3) := by decide +kernel
theorem dX0_setQuarrel_49 : decode cX0_setQuarrel 49 = .ok (.iload_n 2, 1) := by decide +kernel
theorem dX0_setQuarrel_50 : decode cX0_setQuarrel 50 = .ok (.iload_n 3, 1) := by decide +kernel
theorem dX0_setQuarrel_51 : decode cX0_setQuarrel 51 = .ok (.ifCond .eq 16, 3) := by decide +kernel
theorem dX0_setQuarrel_54 : decode cX0_setQuarrel 54 = .ok (.aload_n 0, 1) := by decide +kernel
theorem dX0_setQuarrel_55 : decode cX0_setQuarrel 55 = .ok (.getfield 31, 3) := by decide +kernel
theorem dX0_setQuarrel_58 : decode cX0_setQuarrel 58 = .ok (.iload_n 2, 1) := by decide +kernel
theorem dX0_setQuarrel_59 : decode cX0_setQuarrel 59 = .ok (.iaload, 1) := by decide +kernel
theorem dX0_setQuarrel_60 : decode cX0_setQuarrel 60 = .ok (.iconst 1, 1) := by decide +kernel
theorem dX0_setQuarrel_61 : decode cX0_setQuarrel 61 = .ok (.iload_n 1, 1) := by decide +kernel
theorem dX0_setQuarrel_62 : decode cX0_setQuarrel 62 = .ok (.ishl, 1) := by decide +kernel
theorem dX0_setQuarrel_63 : decode cX0_setQuarrel 63 = .ok (.ior, 1) := by decide +kernel
theorem dX0_setQuarrel_64 : decode cX0_setQuarrel 64 = .ok (.goto 15, 3) := by decide +kernel
theorem dX0_setQuarrel_67 : decode cX0_setQuarrel 67 = .ok (.aload_n 0, 1) := by decide +kernel
theorem dX0_setQuarrel_68 : decode cX0_setQuarrel 68 = .ok (.getfield 31, 3) := by decide +kernel
theorem dX0_setQuarrel_71 : decode cX0_setQuarrel 71 = .ok (.iload_n 2, 1) := by decide +kernel
theorem dX0_setQuarrel_72 : decode cX0_setQuarrel 72 = .ok (.iaload, 1) := by decide +kernel
theorem dX0_setQuarrel_73 : decode cX0_setQuarrel 73 = .ok (.iconst 1, 1) := by decide +kernel
theorem dX0_setQuarrel_74 : decode cX0_setQuarrel 74 = .ok (.iload_n 1, 1) := by decide +kernel
theorem dX0_setQuarrel_75 : decode cX0_setQuarrel 75 = .ok (.ishl, 1) := by decide +kernel
theorem dX0_setQuarrel_76 : decode cX0_setQuarrel 76 = .ok (.iconst (-1), 1) := by decide +kernel
theorem dX0_setQuarrel_77 : decode cX0_setQuarrel 77 = .ok (.ixor, 1) := by decide +kernel
theorem dX0_setQuarrel_78 : decode cX0_setQuarrel 78 = .ok (.iand, 1) := by decide +kernel
theorem dX0_setQuarrel_79 : decode cX0_setQuarrel 79 = .ok (.iastore, 1) := by decide +kernel
theorem dX0_setQuarrel_80 : decode cX0_setQuarrel 80 = .ok (.return_, 1) := by decide +kernel
theorem dX0_addNote_0 : decode cX0_addNote 0 = .ok (.aload_n 0, 1) := by decide +kernel
theorem dX0_addNote_1 : decode cX0_addNote 1 = .ok (.getfield 60, 3) := by decide +kernel
theorem dX0_addNote_4 : decode cX0_addNote 4 = .ok (.bipush 6, 2) := by decide +kernel
theorem dX0_addNote_6 : decode cX0_addNote 6 = .ok (.if_icmp .lt 4, 3) := by decide +kernel
theorem dX0_addNote_9 : decode cX0_addNote 9 = .ok (.return_, 1) := by decide +kernel
theorem dX0_addNote_10 : decode cX0_addNote 10 = .ok (.aload_n 0, 1) := by decide +kernel
theorem dX0_addNote_11 : decode cX0_addNote 11 = .ok (.getfield 34, 3) := by decide +kernel
theorem dX0_addNote_14 : decode cX0_addNote 14 = .ok (.aload_n 0, 1) := by decide +kernel
theorem dX0_addNote_15 : decode cX0_addNote 15 = .ok (.getfield 60, 3) := by decide +kernel
theorem dX0_addNote_18 : decode cX0_addNote 18 = .ok (.iload_n 1, 1) := by decide +kernel
theorem dX0_addNote_19 : decode cX0_addNote 19 = .ok (.iastore, 1) := by decide +kernel
theorem dX0_addNote_20 : decode cX0_addNote 20 = .ok (.aload_n 0, 1) := by decide +kernel
theorem dX0_addNote_21 : decode cX0_addNote 21 = .ok (.getfield 37, 3) := by decide +kernel
theorem dX0_addNote_24 : decode cX0_addNote 24 = .ok (.aload_n 0, 1) := by decide +kernel
theorem dX0_addNote_25 : decode cX0_addNote 25 = .ok (.getfield 60, 3) := by decide +kernel
theorem dX0_addNote_28 : decode cX0_addNote 28 = .ok (.iload_n 2, 1) := by decide +kernel
theorem dX0_addNote_29 : decode cX0_addNote 29 = .ok (.iastore, 1) := by decide +kernel
theorem dX0_addNote_30 : decode cX0_addNote 30 = .ok (.aload_n 0, 1) := by decide +kernel
theorem dX0_addNote_31 : decode cX0_addNote 31 = .ok (.getfield 40, 3) := by decide +kernel
theorem dX0_addNote_34 : decode cX0_addNote 34 = .ok (.aload_n 0, 1) := by decide +kernel
theorem dX0_addNote_35 : decode cX0_addNote 35 = .ok (.getfield 60, 3) := by decide +kernel
theorem dX0_addNote_38 : decode cX0_addNote 38 = .ok (.iload_n 3, 1) := by decide +kernel
theorem dX0_addNote_39 : decode cX0_addNote 39 = .ok (.iastore, 1) := by decide +kernel
theorem dX0_addNote_40 : decode cX0_addNote 40 = .ok (.aload_n 0, 1) := by decide +kernel
theorem dX0_addNote_41 : decode cX0_addNote 41 = .ok (.getfield 43, 3) := by decide +kernel
theorem dX0_addNote_44 : decode cX0_addNote 44 = .ok (.aload_n 0, 1) := by decide +kernel
theorem dX0_addNote_45 : decode cX0_addNote 45 = .ok (.getfield 60, 3) := by decide +kernel
theorem dX0_addNote_48 : decode cX0_addNote 48 = .ok (.iload 4, 2) := by decide +kernel
theorem dX0_addNote_50 : decode cX0_addNote 50 = .ok (.iastore, 1) := by decide +kernel
theorem dX0_addNote_51 : decode cX0_addNote 51 = .ok (.aload_n 0, 1) := by decide +kernel
theorem dX0_addNote_52 : decode cX0_addNote 52 = .ok (.dup, 1) := by decide +kernel
theorem dX0_addNote_53 : decode cX0_addNote 53 = .ok (.getfield 60, 3) := by decide +kernel
theorem dX0_addNote_56 : decode cX0_addNote 56 = .ok (.iconst 1, 1) := by decide +kernel
theorem dX0_addNote_57 : decode cX0_addNote 57 = .ok (.iadd, 1) := by decide +kernel
theorem dX0_addNote_58 : decode cX0_addNote 58 = .ok (.putfield 60, 3) := by decide +kernel
theorem dX0_addNote_61 : decode cX0_addNote 61 = .ok (.return_, 1) := by decide +kernel
theorem dX0_remember_0 : decode cX0_remember 0 = .ok (.aload_n 0, 1) := by decide +kernel
theorem dX0_remember_1 : decode cX0_remember 1 = .ok (.getfield 66, 3) := by decide +kernel
theorem dX0_remember_4 : decode cX0_remember 4 = .ok (.bipush 8, 2) := by decide +kernel
theorem dX0_remember_6 : decode cX0_remember 6 = .ok (.if_icmp .lt 52, 3) := by decide +kernel
theorem dX0_remember_9 : decode cX0_remember 9 = .ok (.aload_n 0, 1) := by decide +kernel
theorem dX0_remember_10 : decode cX0_remember 10 = .ok (.getfield 53, 3) := by decide +kernel
theorem dX0_remember_13 : decode cX0_remember 13 = .ok (.iconst 0, 1) := by decide +kernel
theorem dX0_remember_14 : decode cX0_remember 14 = .ok (.aaload, 1) := by decide +kernel
theorem dX0_remember_15 : decode cX0_remember 15 = .ok (.astore_n 1, 1) := by decide +kernel
theorem dX0_remember_16 : decode cX0_remember 16 = .ok (.iconst 1, 1) := by decide +kernel
theorem dX0_remember_17 : decode cX0_remember 17 = .ok (.istore_n 2, 1) := by decide +kernel
theorem dX0_remember_18 : decode cX0_remember 18 = .ok (.iload_n 2, 1) := by decide +kernel
theorem dX0_remember_19 : decode cX0_remember 19 = .ok (.bipush 8, 2) := by decide +kernel
theorem dX0_remember_21 : decode cX0_remember 21 = .ok (.if_icmp .ge 23, 3) := by decide +kernel
theorem dX0_remember_24 : decode cX0_remember 24 = .ok (.aload_n 0, 1) := by decide +kernel
theorem dX0_remember_25 : decode cX0_remember 25 = .ok (.getfield 53, 3) := by decide +kernel
theorem dX0_remember_28 : decode cX0_remember 28 = .ok (.iload_n 2, 1) := by decide +kernel
theorem dX0_remember_29 : decode cX0_remember 29 = .ok (.iconst 1, 1) := by decide +kernel
theorem dX0_remember_30 : decode cX0_remember 30 = .ok (.isub, 1) := by decide +kernel
theorem dX0_remember_31 : decode cX0_remember 31 = .ok (.aload_n 0, 1) := by decide +kernel
theorem dX0_remember_32 : decode cX0_remember 32 = .ok (.getfield 53, 3) := by decide +kernel
theorem dX0_remember_35 : decode cX0_remember 35 = .ok (.iload_n 2, 1) := by decide +kernel
theorem dX0_remember_36 : decode cX0_remember 36 = .ok (.aaload, 1) := by decide +kernel
theorem dX0_remember_37 : decode cX0_remember 37 = .ok (.aastore, 1) := by decide +kernel
theorem dX0_remember_38 : decode cX0_remember 38 = .ok (.iinc 2 1, 3) := by decide +kernel
theorem dX0_remember_41 : decode cX0_remember 41 = .ok (.goto (-23), 3) := by decide +kernel
theorem dX0_remember_44 : decode cX0_remember 44 = .ok (.aload_n 0, 1) := by decide +kernel
theorem dX0_remember_45 : decode cX0_remember 45 = .ok (.getfield 53, 3) := by decide +kernel
theorem dX0_remember_48 : decode cX0_remember 48 = .ok (.bipush 7, 2) := by decide +kernel
theorem dX0_remember_50 : decode cX0_remember 50 = .ok (.aload_n 1, 1) := by decide +kernel
theorem dX0_remember_51 : decode cX0_remember 51 = .ok (.aastore, 1) := by decide +kernel
theorem dX0_remember_52 : decode cX0_remember 52 = .ok (.aload_n 0, 1) := by decide +kernel
theorem dX0_remember_53 : decode cX0_remember 53 = .ok (.bipush 7, 2) := by decide +kernel
theorem dX0_remember_55 : decode cX0_remember 55 = .ok (.putfield 66, 3) := by decide +kernel
theorem dX0_remember_58 : decode cX0_remember 58 = .ok (.aload_n 0, 1) := by decide +kernel
theorem dX0_remember_59 : decode cX0_remember 59 = .ok (.getfield 53, 3) := by decide +kernel
theorem dX0_remember_62 : decode cX0_remember 62 = .ok (.aload_n 0, 1) := by decide +kernel
theorem dX0_remember_63 : decode cX0_remember 63 = .ok (.getfield 66, 3) := by decide +kernel
theorem dX0_remember_66 : decode cX0_remember 66 = .ok (.aaload, 1) := by decide +kernel
theorem dX0_remember_67 : decode cX0_remember 67 = .ok (.aload_n 0, 1) := by decide +kernel
theorem dX0_remember_68 : decode cX0_remember 68 = .ok (.getfield 49, 3) := by decide +kernel
theorem dX0_remember_71 : decode cX0_remember 71 = .ok (.invokevirtual 75, 3) := by decide +kernel
theorem dX0_remember_74 : decode cX0_remember 74 = .ok (.aload_n 0, 1) := by decide +kernel
theorem dX0_remember_75 : decode cX0_remember 75 = .ok (.dup, 1) := by decide +kernel
theorem dX0_remember_76 : decode cX0_remember 76 = .ok (.getfield 66, 3) := by decide +kernel
theorem dX0_remember_79 : decode cX0_remember 79 = .ok (.iconst 1, 1) := by decide +kernel
theorem dX0_remember_80 : decode cX0_remember 80 = .ok (.iadd, 1) := by decide +kernel
theorem dX0_remember_81 : decode cX0_remember 81 = .ok (.putfield 66, 3) := by decide +kernel
theorem dX0_remember_84 : decode cX0_remember 84 = .ok (.return_, 1) := by decide +kernel
theorem dX0_goBack_0 : decode cX0_goBack 0 = .ok (.aload_n 0, 1) := by decide +kernel
theorem dX0_goBack_1 : decode cX0_goBack 1 = .ok (.getfield 66, 3) := by decide +kernel
theorem dX0_goBack_4 : decode cX0_goBack 4 = .ok (.ifCond .gt 4, 3) := by decide +kernel
theorem dX0_goBack_7 : decode cX0_goBack 7 = .ok (.return_, 1) := by decide +kernel
theorem dX0_goBack_8 : decode cX0_goBack 8 = .ok (.aload_n 0, 1) := by decide +kernel
theorem dX0_goBack_9 : decode cX0_goBack 9 = .ok (.dup, 1) := by decide +kernel
theorem dX0_goBack_10 : decode cX0_goBack 10 = .ok (.getfield 66, 3) := by decide +kernel
theorem dX0_goBack_13 : decode cX0_goBack 13 = .ok (.iconst 1, 1) := by decide +kernel
theorem dX0_goBack_14 : decode cX0_goBack 14 = .ok (.isub, 1) := by decide +kernel
theorem dX0_goBack_15 : decode cX0_goBack 15 = .ok (.putfield 66, 3) := by decide +kernel
theorem dX0_goBack_18 : decode cX0_goBack 18 = .ok (.aload_n 0, 1) := by decide +kernel
theorem dX0_goBack_19 : decode cX0_goBack 19 = .ok (.getfield 49, 3) := by decide +kernel
theorem dX0_goBack_22 : decode cX0_goBack 22 = .ok (.aload_n 0, 1) := by decide +kernel
theorem dX0_goBack_23 : decode cX0_goBack 23 = .ok (.getfield 53, 3) := by decide +kernel
theorem dX0_goBack_26 : decode cX0_goBack 26 = .ok (.aload_n 0, 1) := by decide +kernel
theorem dX0_goBack_27 : decode cX0_goBack 27 = .ok (.getfield 66, 3) := by decide +kernel
theorem dX0_goBack_30 : decode cX0_goBack 30 = .ok (.aaload, 1) := by decide +kernel
theorem dX0_goBack_31 : decode cX0_goBack 31 = .ok (.invokevirtual 75, 3) := by decide +kernel
theorem dX0_goBack_34 : decode cX0_goBack 34 = .ok (.return_, 1) := by decide +kernel
theorem dX0_passStop_0 : decode cX0_passStop 0 = .ok (.aload_n 1, 1) := by decide +kernel
theorem dX0_passStop_1 : decode cX0_passStop 1 = .ok (.getfield 87, 3) := by decide +kernel
theorem dX0_passStop_4 : decode cX0_passStop 4 = .ok (.istore 4, 2) := by decide +kernel
theorem dX0_passStop_6 : decode cX0_passStop 6 = .ok (.iload 4, 2) := by decide +kernel
theorem dX0_passStop_8 : decode cX0_passStop 8 = .ok (.iconst 0, 1) := by decide +kernel
theorem dX0_passStop_9 : decode cX0_passStop 9 = .ok (.bipush 9, 2) := by decide +kernel
theorem dX0_passStop_11 : decode cX0_passStop 11 = .ok (.invokestatic 90, 3) := by decide +kernel
theorem dX0_passStop_14 : decode cX0_passStop 14 = .ok (.ifCond .ne 4, 3) := by decide +kernel
theorem dX0_passStop_17 : decode cX0_passStop 17 = .ok (.return_, 1) := by decide +kernel
theorem dX0_passStop_18 : decode cX0_passStop 18 = .ok (.aload_n 0, 1) := by decide +kernel
theorem dX0_passStop_19 : decode cX0_passStop 19 = .ok (.aload_n 1, 1) := by decide +kernel
theorem dX0_passStop_20 : decode cX0_passStop 20 = .ok (.iload 4, 2) := by decide +kernel
theorem dX0_passStop_22 : decode cX0_passStop 22 = .ok (.invokevirtual 94, 3) := by decide +kernel
theorem dX0_passStop_25 : decode cX0_passStop 25 = .ok (.aload_n 0, 1) := by decide +kernel
theorem dX0_passStop_26 : decode cX0_passStop 26 = .ok (.aload_n 1, 1) := by decide +kernel
theorem dX0_passStop_27 : decode cX0_passStop 27 = .ok (.iload 4, 2) := by decide +kernel
theorem dX0_passStop_29 : decode cX0_passStop 29 = .ok (.aload_n 2, 1) := by decide +kernel
theorem dX0_passStop_30 : decode cX0_passStop 30 = .ok (.invokevirtual 98, 3) := by decide +kernel
theorem dX0_passStop_33 : decode cX0_passStop 33 = .ok (.aload_n 0, 1) := by decide +kernel
theorem dX0_passStop_34 : decode cX0_passStop 34 = .ok (.aload_n 1, 1) := by decide +kernel
theorem dX0_passStop_35 : decode cX0_passStop 35 = .ok (.iload 4, 2) := by decide +kernel
theorem dX0_passStop_37 : decode cX0_passStop 37 = .ok (.iload_n 3, 1) := by decide +kernel
theorem dX0_passStop_38 : decode cX0_passStop 38 = .ok (.invokevirtual 102, 3) := by decide +kernel
theorem dX0_passStop_41 : decode cX0_passStop 41 = .ok (.aload_n 1, 1) := by decide +kernel
theorem dX0_passStop_42 : decode cX0_passStop 42 = .ok (.dup, 1) := by decide +kernel
theorem dX0_passStop_43 : decode cX0_passStop 43 = .ok (.getfield 106, 3) := by decide +kernel
theorem dX0_passStop_46 : decode cX0_passStop 46 = .ok (.aload_n 0, 1) := by decide +kernel
theorem dX0_passStop_47 : decode cX0_passStop 47 = .ok (.aload_n 1, 1) := by decide +kernel
theorem dX0_passStop_48 : decode cX0_passStop 48 = .ok (.getfield 109, 3) := by decide +kernel
theorem dX0_passStop_51 : decode cX0_passStop 51 = .ok (.iload 4, 2) := by decide +kernel
theorem dX0_passStop_53 : decode cX0_passStop 53 = .ok (.invokevirtual 112, 3) := by decide +kernel
theorem dX0_passStop_56 : decode cX0_passStop 56 = .ok (.iadd, 1) := by decide +kernel
theorem dX0_passStop_57 : decode cX0_passStop 57 = .ok (.putfield 106, 3) := by decide +kernel
theorem dX0_passStop_60 : decode cX0_passStop 60 = .ok (.aload_n 1, 1) := by decide +kernel
theorem dX0_passStop_61 : decode cX0_passStop 61 = .ok (.iload 4, 2) := by decide +kernel
theorem dX0_passStop_63 : decode cX0_passStop 63 = .ok (.iconst 1, 1) := by decide +kernel
theorem dX0_passStop_64 : decode cX0_passStop 64 = .ok (.iadd, 1) := by decide +kernel
theorem dX0_passStop_65 : decode cX0_passStop 65 = .ok (.putfield 87, 3) := by decide +kernel
theorem dX0_passStop_68 : decode cX0_passStop 68 = .ok (.return_, 1) := by decide +kernel
theorem dX0_letOff_0 : decode cX0_letOff 0 = .ok (.iconst 0, 1) := by decide +kernel
theorem dX0_letOff_1 : decode cX0_letOff 1 = .ok (.istore_n 3, 1) := by decide +kernel
theorem dX0_letOff_2 : decode cX0_letOff 2 = .ok (.iload_n 3, 1) := by decide +kernel
theorem dX0_letOff_3 : decode cX0_letOff 3 = .ok (.aload_n 0, 1) := by decide +kernel
theorem dX0_letOff_4 : decode cX0_letOff 4 = .ok (.getfield 57, 3) := by decide +kernel
theorem dX0_letOff_7 : decode cX0_letOff 7 = .ok (.if_icmp .ge 33, 3) := by decide +kernel
theorem dX0_letOff_10 : decode cX0_letOff 10 = .ok (.aload_n 0, 1) := by decide +kernel
theorem dX0_letOff_11 : decode cX0_letOff 11 = .ok (.getfield 28, 3) := by decide +kernel
theorem dX0_letOff_14 : decode cX0_letOff 14 = .ok (.iload_n 3, 1) := by decide +kernel
theorem dX0_letOff_15 : decode cX0_letOff 15 = .ok (.iaload, 1) := by decide +kernel
theorem dX0_letOff_16 : decode cX0_letOff 16 = .ok (.iload_n 2, 1) := by decide +kernel
theorem dX0_letOff_17 : decode cX0_letOff 17 = .ok (.if_icmp .ne 17, 3) := by decide +kernel
theorem dX0_letOff_20 : decode cX0_letOff 20 = .ok (.aload_n 1, 1) := by decide +kernel
theorem dX0_letOff_21 : decode cX0_letOff 21 = .ok (.dup, 1) := by decide +kernel
theorem dX0_letOff_22 : decode cX0_letOff 22 = .ok (.getfield 109, 3) := by decide +kernel
theorem dX0_letOff_25 : decode cX0_letOff 25 = .ok (.iconst 1, 1) := by decide +kernel
theorem dX0_letOff_26 : decode cX0_letOff 26 = .ok (.iload_n 3, 1) := by decide +kernel
theorem dX0_letOff_27 : decode cX0_letOff 27 = .ok (.ishl, 1) := by decide +kernel
theorem dX0_letOff_28 : decode cX0_letOff 28 = .ok (.iconst (-1), 1) := by decide +kernel
theorem dX0_letOff_29 : decode cX0_letOff 29 = .ok (.ixor, 1) := by decide +kernel
theorem dX0_letOff_30 : decode cX0_letOff 30 = .ok (.iand, 1) := by decide +kernel
theorem dX0_letOff_31 : decode cX0_letOff 31 = .ok (.putfield 109, 3) := by decide +kernel
theorem dX0_letOff_34 : decode cX0_letOff 34 = .ok (.iinc 3 1, 3) := by decide +kernel
theorem dX0_letOff_37 : decode cX0_letOff 37 = .ok (.goto (-35), 3) := by decide +kernel
theorem dX0_letOff_40 : decode cX0_letOff 40 = .ok (.return_, 1) := by decide +kernel
theorem dX0_letOn_0 : decode cX0_letOn 0 = .ok (.iconst 0, 1) := by decide +kernel
theorem dX0_letOn_1 : decode cX0_letOn 1 = .ok (.istore 4, 2) := by decide +kernel
theorem dX0_letOn_3 : decode cX0_letOn 3 = .ok (.iload 4, 2) := by decide +kernel
theorem dX0_letOn_5 : decode cX0_letOn 5 = .ok (.aload_n 0, 1) := by decide +kernel
theorem dX0_letOn_6 : decode cX0_letOn 6 = .ok (.getfield 57, 3) := by decide +kernel
theorem dX0_letOn_9 : decode cX0_letOn 9 = .ok (.if_icmp .ge 97, 3) := by decide +kernel
theorem dX0_letOn_12 : decode cX0_letOn 12 = .ok (.iload 4, 2) := by decide +kernel
theorem dX0_letOn_14 : decode cX0_letOn 14 = .ok (.aload_n 3, 1) := by decide +kernel
theorem dX0_letOn_15 : decode cX0_letOn 15 = .ok (.arraylength, 1) := by decide +kernel
theorem dX0_letOn_16 : decode cX0_letOn 16 = .ok (.if_icmp .ge 90, 3) := by decide +kernel
theorem dX0_letOn_19 : decode cX0_letOn 19 = .ok (.aload_n 3, 1) := by decide +kernel
theorem dX0_letOn_20 : decode cX0_letOn 20 = .ok (.iload 4, 2) := by decide +kernel
theorem dX0_letOn_22 : decode cX0_letOn 22 = .ok (.iaload, 1) := by decide +kernel
theorem dX0_letOn_23 : decode cX0_letOn 23 = .ok (.iload_n 2, 1) := by decide +kernel
theorem dX0_letOn_24 : decode cX0_letOn 24 = .ok (.if_icmp .eq 6, 3) := by decide +kernel
theorem dX0_letOn_27 : decode cX0_letOn 27 = .ok (.goto 73, 3) := by decide +kernel
theorem dX0_letOn_30 : decode cX0_letOn 30 = .ok (.aload_n 1, 1) := by decide +kernel
theorem dX0_letOn_31 : decode cX0_letOn 31 = .ok (.getfield 109, 3) := by decide +kernel
theorem dX0_letOn_34 : decode cX0_letOn 34 = .ok (.invokestatic 116, 3) := by decide +kernel
theorem dX0_letOn_37 : decode cX0_letOn 37 = .ok (.aload_n 0, 1) := by decide +kernel
theorem dX0_letOn_38 : decode cX0_letOn 38 = .ok (.getfield 9, 3) := by decide +kernel
theorem dX0_letOn_41 : decode cX0_letOn 41 = .ok (.if_icmp .ge 22, 3) := by decide +kernel
theorem dX0_letOn_44 : decode cX0_letOn 44 = .ok (.aload_n 0, 1) := by decide +kernel
theorem dX0_letOn_45 : decode cX0_letOn 45 = .ok (.getfield 31, 3) := by decide +kernel
theorem dX0_letOn_48 : decode cX0_letOn 48 = .ok (.iload 4, 2) := by decide +kernel
theorem dX0_letOn_50 : decode cX0_letOn 50 = .ok (.iaload, 1) := by decide +kernel
theorem dX0_letOn_51 : decode cX0_letOn 51 = .ok (.aload_n 1, 1) := by decide +kernel
theorem dX0_letOn_52 : decode cX0_letOn 52 = .ok (.getfield 109, 3) := by decide +kernel
theorem dX0_letOn_55 : decode cX0_letOn 55 = .ok (.iand, 1) := by decide +kernel
theorem dX0_letOn_56 : decode cX0_letOn 56 = .ok (.ifCond .ne 7, 3) := by decide +kernel
theorem dX0_letOn_59 : decode cX0_letOn 59 = .ok (.iconst 1, 1) := by decide +kernel
theorem dX0_letOn_60 : decode cX0_letOn 60 = .ok (.goto 4, 3) := by decide +kernel
theorem dX0_letOn_63 : decode cX0_letOn 63 = .ok (.iconst 0, 1) := by decide +kernel
theorem dX0_letOn_64 : decode cX0_letOn 64 = .ok (.istore 5, 2) := by decide +kernel
theorem dX0_letOn_66 : decode cX0_letOn 66 = .ok (.iload 5, 2) := by decide +kernel
theorem dX0_letOn_68 : decode cX0_letOn 68 = .ok (.ifCond .eq 19, 3) := by decide +kernel
theorem dX0_letOn_71 : decode cX0_letOn 71 = .ok (.aload_n 1, 1) := by decide +kernel
theorem dX0_letOn_72 : decode cX0_letOn 72 = .ok (.dup, 1) := by decide +kernel
theorem dX0_letOn_73 : decode cX0_letOn 73 = .ok (.getfield 109, 3) := by decide +kernel
theorem dX0_letOn_76 : decode cX0_letOn 76 = .ok (.iconst 1, 1) := by decide +kernel
theorem dX0_letOn_77 : decode cX0_letOn 77 = .ok (.iload 4, 2) := by decide +kernel
theorem dX0_letOn_79 : decode cX0_letOn 79 = .ok (.ishl, 1) := by decide +kernel
theorem dX0_letOn_80 : decode cX0_letOn 80 = .ok (.ior, 1) := by decide +kernel
theorem dX0_letOn_81 : decode cX0_letOn 81 = .ok (.putfield 109, 3) := by decide +kernel
theorem dX0_letOn_84 : decode cX0_letOn 84 = .ok (.goto 16, 3) := by decide +kernel
theorem dX0_letOn_87 : decode cX0_letOn 87 = .ok (.aload_n 1, 1) := by decide +kernel
theorem dX0_letOn_88 : decode cX0_letOn 88 = .ok (.dup, 1) := by decide +kernel
theorem dX0_letOn_89 : decode cX0_letOn 89 = .ok (.getfield 122, 3) := by decide +kernel
theorem dX0_letOn_92 : decode cX0_letOn 92 = .ok (.iconst 1, 1) := by decide +kernel
theorem dX0_letOn_93 : decode cX0_letOn 93 = .ok (.iload 4, 2) := by decide +kernel
theorem dX0_letOn_95 : decode cX0_letOn 95 = .ok (.ishl, 1) := by decide +kernel
theorem dX0_letOn_96 : decode cX0_letOn 96 = .ok (.ior, 1) := by decide +kernel
theorem dX0_letOn_97 : decode cX0_letOn 97 = .ok (.putfield 122, 3) := by decide +kernel
theorem dX0_letOn_100 : decode cX0_letOn 100 = .ok (.iinc 4 1, 3) := by decide +kernel
theorem dX0_letOn_103 : decode cX0_letOn 103 = .ok (.goto (-100), 3) := by decide +kernel
theorem dX0_letOn_106 : decode cX0_letOn 106 = .ok (.return_, 1) := by decide +kernel
theorem dX0_scrape_0 : decode cX0_scrape 0 = .ok (.aload_n 0, 1) := by decide +kernel
theorem dX0_scrape_1 : decode cX0_scrape 1 = .ok (.getfield 15, 3) := by decide +kernel
theorem dX0_scrape_4 : decode cX0_scrape 4 = .ok (.iload_n 2, 1) := by decide +kernel
theorem dX0_scrape_5 : decode cX0_scrape 5 = .ok (.iaload, 1) := by decide +kernel
theorem dX0_scrape_6 : decode cX0_scrape 6 = .ok (.ifCond .ne 4, 3) := by decide +kernel
theorem dX0_scrape_9 : decode cX0_scrape 9 = .ok (.return_, 1) := by decide +kernel
theorem dX0_scrape_10 : decode cX0_scrape 10 = .ok (.iconst 0, 1) := by decide +kernel
theorem dX0_scrape_11 : decode cX0_scrape 11 = .ok (.istore 4, 2) := by decide +kernel
theorem dX0_scrape_13 : decode cX0_scrape 13 = .ok (.iload 4, 2) := by decide +kernel
theorem dX0_scrape_15 : decode cX0_scrape 15 = .ok (.aload_n 0, 1) := by decide +kernel
theorem dX0_scrape_16 : decode cX0_scrape 16 = .ok (.getfield 57, 3) := by decide +kernel
theorem dX0_scrape_19 : decode cX0_scrape 19 = .ok (.if_icmp .ge 72, 3) := by decide +kernel
theorem dX0_scrape_22 : decode cX0_scrape 22 = .ok (.aload_n 1, 1) := by decide +kernel
theorem dX0_scrape_23 : decode cX0_scrape 23 = .ok (.getfield 109, 3) := by decide +kernel
theorem dX0_scrape_26 : decode cX0_scrape 26 = .ok (.iload 4, 2) := by decide +kernel
theorem dX0_scrape_28 : decode cX0_scrape 28 = .ok (.invokestatic 125, 3) := by decide +kernel
theorem dX0_scrape_31 : decode cX0_scrape 31 = .ok (.iconst 1, 1) := by decide +kernel
theorem dX0_scrape_32 : decode cX0_scrape 32 = .ok (.if_icmp .ne 53, 3) := by decide +kernel
theorem dX0_scrape_35 : decode cX0_scrape 35 = .ok (.aload_n 0, 1) := by decide +kernel
theorem dX0_scrape_36 : decode cX0_scrape 36 = .ok (.getfield 19, 3) := by decide +kernel
theorem dX0_scrape_39 : decode cX0_scrape 39 = .ok (.iload 4, 2) := by decide +kernel
theorem dX0_scrape_41 : decode cX0_scrape 41 = .ok (.iaload, 1) := by decide +kernel
theorem dX0_scrape_42 : decode cX0_scrape 42 = .ok (.iload_n 2, 1) := by decide +kernel
theorem dX0_scrape_43 : decode cX0_scrape 43 = .ok (.invokestatic 128, 3) := by decide +kernel
theorem dX0_scrape_46 : decode cX0_scrape 46 = .ok (.aload_n 0, 1) := by decide +kernel
theorem dX0_scrape_47 : decode cX0_scrape 47 = .ok (.getfield 15, 3) := by decide +kernel
theorem dX0_scrape_50 : decode cX0_scrape 50 = .ok (.iload_n 2, 1) := by decide +kernel
theorem dX0_scrape_51 : decode cX0_scrape 51 = .ok (.iaload, 1) := by decide +kernel
theorem dX0_scrape_52 : decode cX0_scrape 52 = .ok (.iload_n 3, 1) := by decide +kernel
theorem dX0_scrape_53 : decode cX0_scrape 53 = .ok (.iadd, 1) := by decide +kernel
theorem dX0_scrape_54 : decode cX0_scrape 54 = .ok (.if_icmp .le 31, 3) := by decide +kernel
theorem dX0_scrape_57 : decode cX0_scrape 57 = .ok (.aload_n 1, 1) := by decide +kernel
theorem dX0_scrape_58 : decode cX0_scrape 58 = .ok (.dup, 1) := by decide +kernel
theorem dX0_scrape_59 : decode cX0_scrape 59 = .ok (.getfield 109, 3) := by decide +kernel
theorem dX0_scrape_62 : decode cX0_scrape 62 = .ok (.iconst 1, 1) := by decide +kernel
theorem dX0_scrape_63 : decode cX0_scrape 63 = .ok (.iload 4, 2) := by decide +kernel
theorem dX0_scrape_65 : decode cX0_scrape 65 = .ok (.ishl, 1) := by decide +kernel
theorem dX0_scrape_66 : decode cX0_scrape 66 = .ok (.iconst (-1), 1) := by decide +kernel
theorem dX0_scrape_67 : decode cX0_scrape 67 = .ok (.ixor, 1) := by decide +kernel
theorem dX0_scrape_68 : decode cX0_scrape 68 = .ok (.iand, 1) := by decide +kernel
theorem dX0_scrape_69 : decode cX0_scrape 69 = .ok (.putfield 109, 3) := by decide +kernel
theorem dX0_scrape_72 : decode cX0_scrape 72 = .ok (.aload_n 1, 1) := by decide +kernel
theorem dX0_scrape_73 : decode cX0_scrape 73 = .ok (.dup, 1) := by decide +kernel
theorem dX0_scrape_74 : decode cX0_scrape 74 = .ok (.getfield 131, 3) := by decide +kernel
theorem dX0_scrape_77 : decode cX0_scrape 77 = .ok (.iconst 1, 1) := by decide +kernel
theorem dX0_scrape_78 : decode cX0_scrape 78 = .ok (.iload 4, 2) := by decide +kernel
theorem dX0_scrape_80 : decode cX0_scrape 80 = .ok (.ishl, 1) := by decide +kernel
theorem dX0_scrape_81 : decode cX0_scrape 81 = .ok (.ior, 1) := by decide +kernel
theorem dX0_scrape_82 : decode cX0_scrape 82 = .ok (.putfield 131, 3) := by decide +kernel
theorem dX0_scrape_85 : decode cX0_scrape 85 = .ok (.iinc 4 1, 3) := by decide +kernel
theorem dX0_scrape_88 : decode cX0_scrape 88 = .ok (.goto (-75), 3) := by decide +kernel
theorem dX0_scrape_91 : decode cX0_scrape 91 = .ok (.return_, 1) := by decide +kernel
theorem dX0_swayOfAll_0 : decode cX0_swayOfAll 0 = .ok (.iconst 0, 1) := by decide +kernel
theorem dX0_swayOfAll_1 : decode cX0_swayOfAll 1 = .ok (.istore_n 3, 1) := by decide +kernel
theorem dX0_swayOfAll_2 : decode cX0_swayOfAll 2 = .ok (.iconst 0, 1) := by decide +kernel
theorem dX0_swayOfAll_3 : decode cX0_swayOfAll 3 = .ok (.istore 4, 2) := by decide +kernel
theorem dX0_swayOfAll_5 : decode cX0_swayOfAll 5 = .ok (.iload 4, 2) := by decide +kernel
theorem dX0_swayOfAll_7 : decode cX0_swayOfAll 7 = .ok (.aload_n 0, 1) := by decide +kernel
theorem dX0_swayOfAll_8 : decode cX0_swayOfAll 8 = .ok (.getfield 57, 3) := by decide +kernel
theorem dX0_swayOfAll_11 : decode cX0_swayOfAll 11 = .ok (.if_icmp .ge 40, 3) := by decide +kernel
theorem dX0_swayOfAll_14 : decode cX0_swayOfAll 14 = .ok (.iload_n 1, 1) := by decide +kernel
theorem dX0_swayOfAll_15 : decode cX0_swayOfAll 15 = .ok (.iload 4, 2) := by decide +kernel
theorem dX0_swayOfAll_17 : decode cX0_swayOfAll 17 = .ok (.invokestatic 125, 3) := by decide +kernel
theorem dX0_swayOfAll_20 : decode cX0_swayOfAll 20 = .ok (.iconst 1, 1) := by decide +kernel
theorem dX0_swayOfAll_21 : decode cX0_swayOfAll 21 = .ok (.if_icmp .ne 24, 3) := by decide +kernel
theorem dX0_swayOfAll_24 : decode cX0_swayOfAll 24 = .ok (.iload_n 3, 1) := by decide +kernel
theorem dX0_swayOfAll_25 : decode cX0_swayOfAll 25 = .ok (.aload_n 0, 1) := by decide +kernel
theorem dX0_swayOfAll_26 : decode cX0_swayOfAll 26 = .ok (.getfield 19, 3) := by decide +kernel
theorem dX0_swayOfAll_29 : decode cX0_swayOfAll 29 = .ok (.iload 4, 2) := by decide +kernel
theorem dX0_swayOfAll_31 : decode cX0_swayOfAll 31 = .ok (.iaload, 1) := by decide +kernel
theorem dX0_swayOfAll_32 : decode cX0_swayOfAll 32 = .ok (.aload_n 0, 1) := by decide +kernel
theorem dX0_swayOfAll_33 : decode cX0_swayOfAll 33 = .ok (.getfield 22, 3) := by decide +kernel
theorem dX0_swayOfAll_36 : decode cX0_swayOfAll 36 = .ok (.iload 4, 2) := by decide +kernel
theorem dX0_swayOfAll_38 : decode cX0_swayOfAll 38 = .ok (.iaload, 1) := by decide +kernel
theorem dX0_swayOfAll_39 : decode cX0_swayOfAll 39 = .ok (.iload_n 2, 1) := by decide +kernel
theorem dX0_swayOfAll_40 : decode cX0_swayOfAll 40 = .ok (.invokestatic 134, 3) := by decide +kernel
theorem dX0_swayOfAll_43 : decode cX0_swayOfAll 43 = .ok (.iadd, 1) := by decide +kernel
theorem dX0_swayOfAll_44 : decode cX0_swayOfAll 44 = .ok (.istore_n 3, 1) := by decide +kernel
theorem dX0_swayOfAll_45 : decode cX0_swayOfAll 45 = .ok (.iinc 4 1, 3) := by decide +kernel
theorem dX0_swayOfAll_48 : decode cX0_swayOfAll 48 = .ok (.goto (-43), 3) := by decide +kernel
theorem dX0_swayOfAll_51 : decode cX0_swayOfAll 51 = .ok (.iload_n 3, 1) := by decide +kernel
theorem dX0_swayOfAll_52 : decode cX0_swayOfAll 52 = .ok (.ireturn, 1) := by decide +kernel
theorem dX0_quarrelsIn_0 : decode cX0_quarrelsIn 0 = .ok (.iconst 0, 1) := by decide +kernel
theorem dX0_quarrelsIn_1 : decode cX0_quarrelsIn 1 = .ok (.istore_n 2, 1) := by decide +kernel
theorem dX0_quarrelsIn_2 : decode cX0_quarrelsIn 2 = .ok (.iload_n 2, 1) := by decide +kernel
theorem dX0_quarrelsIn_3 : decode cX0_quarrelsIn 3 = .ok (.aload_n 0, 1) := by decide +kernel
theorem dX0_quarrelsIn_4 : decode cX0_quarrelsIn 4 = .ok (.getfield 57, 3) := by decide +kernel
theorem dX0_quarrelsIn_7 : decode cX0_quarrelsIn 7 = .ok (.if_icmp .ge 31, 3) := by decide +kernel
theorem dX0_quarrelsIn_10 : decode cX0_quarrelsIn 10 = .ok (.iload_n 1, 1) := by decide +kernel
theorem dX0_quarrelsIn_11 : decode cX0_quarrelsIn 11 = .ok (.iload_n 2, 1) := by decide +kernel
theorem dX0_quarrelsIn_12 : decode cX0_quarrelsIn 12 = .ok (.invokestatic 125, 3) := by decide +kernel
theorem dX0_quarrelsIn_15 : decode cX0_quarrelsIn 15 = .ok (.iconst 1, 1) := by decide +kernel
theorem dX0_quarrelsIn_16 : decode cX0_quarrelsIn 16 = .ok (.if_icmp .ne 16, 3) := by decide +kernel
theorem dX0_quarrelsIn_19 : decode cX0_quarrelsIn 19 = .ok (.aload_n 0, 1) := by decide +kernel
theorem dX0_quarrelsIn_20 : decode cX0_quarrelsIn 20 = .ok (.getfield 31, 3) := by decide +kernel
theorem dX0_quarrelsIn_23 : decode cX0_quarrelsIn 23 = .ok (.iload_n 2, 1) := by decide +kernel
theorem dX0_quarrelsIn_24 : decode cX0_quarrelsIn 24 = .ok (.iaload, 1) := by decide +kernel
theorem dX0_quarrelsIn_25 : decode cX0_quarrelsIn 25 = .ok (.iload_n 1, 1) := by decide +kernel
theorem dX0_quarrelsIn_26 : decode cX0_quarrelsIn 26 = .ok (.iand, 1) := by decide +kernel
theorem dX0_quarrelsIn_27 : decode cX0_quarrelsIn 27 = .ok (.ifCond .eq 5, 3) := by decide +kernel
theorem dX0_quarrelsIn_30 : decode cX0_quarrelsIn 30 = .ok (.iconst 1, 1) := by decide +kernel
theorem dX0_quarrelsIn_31 : decode cX0_quarrelsIn 31 = .ok (.ireturn, 1) := by decide +kernel
theorem dX0_quarrelsIn_32 : decode cX0_quarrelsIn 32 = .ok (.iinc 2 1, 3) := by decide +kernel
theorem dX0_quarrelsIn_35 : decode cX0_quarrelsIn 35 = .ok (.goto (-33), 3) := by decide +kernel
theorem dX0_quarrelsIn_38 : decode cX0_quarrelsIn 38 = .ok (.iconst 0, 1) := by decide +kernel
theorem dX0_quarrelsIn_39 : decode cX0_quarrelsIn 39 = .ok (.ireturn, 1) := by decide +kernel
theorem dX0_kindsByNotes_0 : decode cX0_kindsByNotes 0 = .ok (.iconst 0, 1) := by decide +kernel
theorem dX0_kindsByNotes_1 : decode cX0_kindsByNotes 1 = .ok (.istore_n 2, 1) := by decide +kernel
theorem dX0_kindsByNotes_2 : decode cX0_kindsByNotes 2 = .ok (.iconst 0, 1) := by decide +kernel
theorem dX0_kindsByNotes_3 : decode cX0_kindsByNotes 3 = .ok (.istore_n 3, 1) := by decide +kernel
theorem dX0_kindsByNotes_4 : decode cX0_kindsByNotes 4 = .ok (.iload_n 3, 1) := by decide +kernel
theorem dX0_kindsByNotes_5 : decode cX0_kindsByNotes 5 = .ok (.bipush 6, 2) := by decide +kernel
theorem dX0_kindsByNotes_7 : decode cX0_kindsByNotes 7 = .ok (.if_icmp .ge 24, 3) := by decide +kernel
theorem dX0_kindsByNotes_10 : decode cX0_kindsByNotes 10 = .ok (.aload_n 0, 1) := by decide +kernel
theorem dX0_kindsByNotes_11 : decode cX0_kindsByNotes 11 = .ok (.iload_n 1, 1) := by decide +kernel
theorem dX0_kindsByNotes_12 : decode cX0_kindsByNotes 12 = .ok (.iload_n 3, 1) := by decide +kernel
theorem dX0_kindsByNotes_13 : decode cX0_kindsByNotes 13 = .ok (.invokevirtual 138, 3) := by decide +kernel
theorem dX0_kindsByNotes_16 : decode cX0_kindsByNotes 16 = .ok (.ifCond .eq 9, 3) := by decide +kernel
theorem dX0_kindsByNotes_19 : decode cX0_kindsByNotes 19 = .ok (.iload_n 2, 1) := by decide +kernel
theorem dX0_kindsByNotes_20 : decode cX0_kindsByNotes 20 = .ok (.iconst 1, 1) := by decide +kernel
theorem dX0_kindsByNotes_21 : decode cX0_kindsByNotes 21 = .ok (.iload_n 3, 1) := by decide +kernel
theorem dX0_kindsByNotes_22 : decode cX0_kindsByNotes 22 = .ok (.ishl, 1) := by decide +kernel
theorem dX0_kindsByNotes_23 : decode cX0_kindsByNotes 23 = .ok (.ior, 1) := by decide +kernel
theorem dX0_kindsByNotes_24 : decode cX0_kindsByNotes 24 = .ok (.istore_n 2, 1) := by decide +kernel
theorem dX0_kindsByNotes_25 : decode cX0_kindsByNotes 25 = .ok (.iinc 3 1, 3) := by decide +kernel
theorem dX0_kindsByNotes_28 : decode cX0_kindsByNotes 28 = .ok (.goto (-24), 3) := by decide +kernel
theorem dX0_kindsByNotes_31 : decode cX0_kindsByNotes 31 = .ok (.iload_n 2, 1) := by decide +kernel
theorem dX0_kindsByNotes_32 : decode cX0_kindsByNotes 32 = .ok (.ireturn, 1) := by decide +kernel
theorem dX0_fitsNotes_0 : decode cX0_fitsNotes 0 = .ok (.iconst 0, 1) := by decide +kernel
theorem dX0_fitsNotes_1 : decode cX0_fitsNotes 1 = .ok (.istore_n 3, 1) := by decide +kernel
theorem dX0_fitsNotes_2 : decode cX0_fitsNotes 2 = .ok (.iload_n 3, 1) := by decide +kernel
theorem dX0_fitsNotes_3 : decode cX0_fitsNotes 3 = .ok (.aload_n 0, 1) := by decide +kernel
theorem dX0_fitsNotes_4 : decode cX0_fitsNotes 4 = .ok (.getfield 60, 3) := by decide +kernel
theorem dX0_fitsNotes_7 : decode cX0_fitsNotes 7 = .ok (.if_icmp .ge 68, 3) := by decide +kernel
theorem dX0_fitsNotes_10 : decode cX0_fitsNotes 10 = .ok (.aload_n 0, 1) := by decide +kernel
theorem dX0_fitsNotes_11 : decode cX0_fitsNotes 11 = .ok (.getfield 34, 3) := by decide +kernel
theorem dX0_fitsNotes_14 : decode cX0_fitsNotes 14 = .ok (.iload_n 3, 1) := by decide +kernel
theorem dX0_fitsNotes_15 : decode cX0_fitsNotes 15 = .ok (.iaload, 1) := by decide +kernel
theorem dX0_fitsNotes_16 : decode cX0_fitsNotes 16 = .ok (.iload_n 1, 1) := by decide +kernel
theorem dX0_fitsNotes_17 : decode cX0_fitsNotes 17 = .ok (.if_icmp .eq 6, 3) := by decide +kernel
theorem dX0_fitsNotes_20 : decode cX0_fitsNotes 20 = .ok (.goto 49, 3) := by decide +kernel
theorem dX0_fitsNotes_23 : decode cX0_fitsNotes 23 = .ok (.aload_n 0, 1) := by decide +kernel
theorem dX0_fitsNotes_24 : decode cX0_fitsNotes 24 = .ok (.getfield 37, 3) := by decide +kernel
theorem dX0_fitsNotes_27 : decode cX0_fitsNotes 27 = .ok (.iload_n 3, 1) := by decide +kernel
theorem dX0_fitsNotes_28 : decode cX0_fitsNotes 28 = .ok (.iaload, 1) := by decide +kernel
theorem dX0_fitsNotes_29 : decode cX0_fitsNotes 29 = .ok (.istore 4, 2) := by decide +kernel
theorem dX0_fitsNotes_31 : decode cX0_fitsNotes 31 = .ok (.iload_n 2, 1) := by decide +kernel
theorem dX0_fitsNotes_32 : decode cX0_fitsNotes 32 = .ok (.aload_n 0, 1) := by decide +kernel
theorem dX0_fitsNotes_33 : decode cX0_fitsNotes 33 = .ok (.getfield 22, 3) := by decide +kernel
theorem dX0_fitsNotes_36 : decode cX0_fitsNotes 36 = .ok (.iload_n 1, 1) := by decide +kernel
theorem dX0_fitsNotes_37 : decode cX0_fitsNotes 37 = .ok (.iaload, 1) := by decide +kernel
theorem dX0_fitsNotes_38 : decode cX0_fitsNotes 38 = .ok (.iload 4, 2) := by decide +kernel
theorem dX0_fitsNotes_40 : decode cX0_fitsNotes 40 = .ok (.invokestatic 134, 3) := by decide +kernel
theorem dX0_fitsNotes_43 : decode cX0_fitsNotes 43 = .ok (.aload_n 0, 1) := by decide +kernel
theorem dX0_fitsNotes_44 : decode cX0_fitsNotes 44 = .ok (.getfield 40, 3) := by decide +kernel
theorem dX0_fitsNotes_47 : decode cX0_fitsNotes 47 = .ok (.iload_n 3, 1) := by decide +kernel
theorem dX0_fitsNotes_48 : decode cX0_fitsNotes 48 = .ok (.iaload, 1) := by decide +kernel
theorem dX0_fitsNotes_49 : decode cX0_fitsNotes 49 = .ok (.if_icmp .ne 18, 3) := by decide +kernel
theorem dX0_fitsNotes_52 : decode cX0_fitsNotes 52 = .ok (.iload_n 2, 1) := by decide +kernel
theorem dX0_fitsNotes_53 : decode cX0_fitsNotes 53 = .ok (.iload 4, 2) := by decide +kernel
theorem dX0_fitsNotes_55 : decode cX0_fitsNotes 55 = .ok (.invokestatic 128, 3) := by decide +kernel
theorem dX0_fitsNotes_58 : decode cX0_fitsNotes 58 = .ok (.aload_n 0, 1) := by decide +kernel
theorem dX0_fitsNotes_59 : decode cX0_fitsNotes 59 = .ok (.getfield 43, 3) := by decide +kernel
theorem dX0_fitsNotes_62 : decode cX0_fitsNotes 62 = .ok (.iload_n 3, 1) := by decide +kernel
theorem dX0_fitsNotes_63 : decode cX0_fitsNotes 63 = .ok (.iaload, 1) := by decide +kernel
theorem dX0_fitsNotes_64 : decode cX0_fitsNotes 64 = .ok (.if_icmp .eq 5, 3) := by decide +kernel
theorem dX0_fitsNotes_67 : decode cX0_fitsNotes 67 = .ok (.iconst 0, 1) := by decide +kernel
theorem dX0_fitsNotes_68 : decode cX0_fitsNotes 68 = .ok (.ireturn, 1) := by decide +kernel
theorem dX0_fitsNotes_69 : decode cX0_fitsNotes 69 = .ok (.iinc 3 1, 3) := by decide +kernel
theorem dX0_fitsNotes_72 : decode cX0_fitsNotes 72 = .ok (.goto (-70), 3) := by decide +kernel
theorem dX0_fitsNotes_75 : decode cX0_fitsNotes 75 = .ok (.iconst 1, 1) := by decide +kernel
theorem dX0_fitsNotes_76 : decode cX0_fitsNotes 76 = .ok (.ireturn, 1) := by decide +kernel
theorem dX0_countQuarrels_0 : decode cX0_countQuarrels 0 = .ok (.iconst 0, 1) := by decide +kernel
theorem dX0_countQuarrels_1 : decode cX0_countQuarrels 1 = .ok (.istore_n 1, 1) := by decide +kernel
theorem dX0_countQuarrels_2 : decode cX0_countQuarrels 2 = .ok (.iconst 0, 1) := by decide +kernel
theorem dX0_countQuarrels_3 : decode cX0_countQuarrels 3 = .ok (.istore_n 2, 1) := by decide +kernel
theorem dX0_countQuarrels_4 : decode cX0_countQuarrels 4 = .ok (.iload_n 2, 1) := by decide +kernel
theorem dX0_countQuarrels_5 : decode cX0_countQuarrels 5 = .ok (.aload_n 0, 1) := by decide +kernel
theorem dX0_countQuarrels_6 : decode cX0_countQuarrels 6 = .ok (.getfield 57, 3) := by decide +kernel
theorem dX0_countQuarrels_9 : decode cX0_countQuarrels 9 = .ok (.if_icmp .ge 21, 3) := by decide +kernel
theorem dX0_countQuarrels_12 : decode cX0_countQuarrels 12 = .ok (.iload_n 1, 1) := by decide +kernel
theorem dX0_countQuarrels_13 : decode cX0_countQuarrels 13 = .ok (.aload_n 0, 1) := by decide +kernel
theorem dX0_countQuarrels_14 : decode cX0_countQuarrels 14 = .ok (.getfield 31, 3) := by decide +kernel
theorem dX0_countQuarrels_17 : decode cX0_countQuarrels 17 = .ok (.iload_n 2, 1) := by decide +kernel
theorem dX0_countQuarrels_18 : decode cX0_countQuarrels 18 = .ok (.iaload, 1) := by decide +kernel
theorem dX0_countQuarrels_19 : decode cX0_countQuarrels 19 = .ok (.invokestatic 116, 3) := by decide +kernel
theorem dX0_countQuarrels_22 : decode cX0_countQuarrels 22 = .ok (.iadd, 1) := by decide +kernel
theorem dX0_countQuarrels_23 : decode cX0_countQuarrels 23 = .ok (.istore_n 1, 1) := by decide +kernel
theorem dX0_countQuarrels_24 : decode cX0_countQuarrels 24 = .ok (.iinc 2 1, 3) := by decide +kernel
theorem dX0_countQuarrels_27 : decode cX0_countQuarrels 27 = .ok (.goto (-23), 3) := by decide +kernel
theorem dX0_countQuarrels_30 : decode cX0_countQuarrels 30 = .ok (.iload_n 1, 1) := by decide +kernel
theorem dX0_countQuarrels_31 : decode cX0_countQuarrels 31 = .ok (.iconst 2, 1) := by decide +kernel
theorem dX0_countQuarrels_32 : decode cX0_countQuarrels 32 = .ok (.idiv, 1) := by decide +kernel
theorem dX0_countQuarrels_33 : decode cX0_countQuarrels 33 = .ok (.ireturn, 1) := by decide +kernel
theorem dX0_countBridges_0 : decode cX0_countBridges 0 = .ok (.iconst 0, 1) := by decide +kernel
theorem dX0_countBridges_1 : decode cX0_countBridges 1 = .ok (.istore_n 1, 1) := by decide +kernel
theorem dX0_countBridges_2 : decode cX0_countBridges 2 = .ok (.iconst 0, 1) := by decide +kernel
theorem dX0_countBridges_3 : decode cX0_countBridges 3 = .ok (.istore_n 2, 1) := by decide +kernel
theorem dX0_countBridges_4 : decode cX0_countBridges 4 = .ok (.iload_n 2, 1) := by decide +kernel
theorem dX0_countBridges_5 : decode cX0_countBridges 5 = .ok (.bipush 10, 2) := by decide +kernel
theorem dX0_countBridges_7 : decode cX0_countBridges 7 = .ok (.if_icmp .ge 21, 3) := by decide +kernel
theorem dX0_countBridges_10 : decode cX0_countBridges 10 = .ok (.aload_n 0, 1) := by decide +kernel
theorem dX0_countBridges_11 : decode cX0_countBridges 11 = .ok (.getfield 15, 3) := by decide +kernel
theorem dX0_countBridges_14 : decode cX0_countBridges 14 = .ok (.iload_n 2, 1) := by decide +kernel
theorem dX0_countBridges_15 : decode cX0_countBridges 15 = .ok (.iaload, 1) := by decide +kernel
theorem dX0_countBridges_16 : decode cX0_countBridges 16 = .ok (.ifCond .le 6, 3) := by decide +kernel
theorem dX0_countBridges_19 : decode cX0_countBridges 19 = .ok (.iinc 1 1, 3) := by decide +kernel
theorem dX0_countBridges_22 : decode cX0_countBridges 22 = .ok (.iinc 2 1, 3) := by decide +kernel
theorem dX0_countBridges_25 : decode cX0_countBridges 25 = .ok (.goto (-21), 3) := by decide +kernel
theorem dX0_countBridges_28 : decode cX0_countBridges 28 = .ok (.iload_n 1, 1) := by decide +kernel
theorem dX0_countBridges_29 : decode cX0_countBridges 29 = .ok (.ireturn, 1) := by decide +kernel
theorem dX0_mixTold_0 : decode cX0_mixTold 0 = .ok (.lload_n 1, 1) := by decide +kernel
theorem dX0_mixTold_1 : decode cX0_mixTold 1 = .ok (.lstore_n 3, 1) := by decide +kernel
theorem dX0_mixTold_2 : decode cX0_mixTold 2 = .ok (.iconst 0, 1) := by decide +kernel
theorem dX0_mixTold_3 : decode cX0_mixTold 3 = .ok (.istore 5, 2) := by decide +kernel
theorem dX0_mixTold_5 : decode cX0_mixTold 5 = .ok (.iload 5, 2) := by decide +kernel
theorem dX0_mixTold_7 : decode cX0_mixTold 7 = .ok (.bipush 10, 2) := by decide +kernel
theorem dX0_mixTold_9 : decode cX0_mixTold 9 = .ok (.if_icmp .ge 24, 3) := by decide +kernel
theorem dX0_mixTold_12 : decode cX0_mixTold 12 = .ok (.ldc2_w 141, 3) := by decide +kernel
theorem dX0_mixTold_15 : decode cX0_mixTold 15 = .ok (.lload_n 3, 1) := by decide +kernel
theorem dX0_mixTold_16 : decode cX0_mixTold 16 = .ok (.lmul, 1) := by decide +kernel
theorem dX0_mixTold_17 : decode cX0_mixTold 17 = .ok (.aload_n 0, 1) := by decide +kernel
theorem dX0_mixTold_18 : decode cX0_mixTold 18 = .ok (.getfield 15, 3) := by decide +kernel
theorem dX0_mixTold_21 : decode cX0_mixTold 21 = .ok (.iload 5, 2) := by decide +kernel
theorem dX0_mixTold_23 : decode cX0_mixTold 23 = .ok (.iaload, 1) := by decide +kernel
theorem dX0_mixTold_24 : decode cX0_mixTold 24 = .ok (.i2l, 1) := by decide +kernel
theorem dX0_mixTold_25 : decode cX0_mixTold 25 = .ok (.ladd, 1) := by decide +kernel
theorem dX0_mixTold_26 : decode cX0_mixTold 26 = .ok (.lstore_n 3, 1) := by decide +kernel
theorem dX0_mixTold_27 : decode cX0_mixTold 27 = .ok (.iinc 5 1, 3) := by decide +kernel
theorem dX0_mixTold_30 : decode cX0_mixTold 30 = .ok (.goto (-25), 3) := by decide +kernel
theorem dX0_mixTold_33 : decode cX0_mixTold 33 = .ok (.iconst 0, 1) := by decide +kernel
theorem dX0_mixTold_34 : decode cX0_mixTold 34 = .ok (.istore 5, 2) := by decide +kernel
theorem dX0_mixTold_36 : decode cX0_mixTold 36 = .ok (.iload 5, 2) := by decide +kernel
theorem dX0_mixTold_38 : decode cX0_mixTold 38 = .ok (.aload_n 0, 1) := by decide +kernel
theorem dX0_mixTold_39 : decode cX0_mixTold 39 = .ok (.getfield 57, 3) := by decide +kernel
theorem dX0_mixTold_42 : decode cX0_mixTold 42 = .ok (.if_icmp .ge 84, 3) := by decide +kernel
theorem dX0_mixTold_45 : decode cX0_mixTold 45 = .ok (.ldc2_w 141, 3) := by decide +kernel
theorem dX0_mixTold_48 : decode cX0_mixTold 48 = .ok (.lload_n 3, 1) := by decide +kernel
theorem dX0_mixTold_49 : decode cX0_mixTold 49 = .ok (.lmul, 1) := by decide +kernel
theorem dX0_mixTold_50 : decode cX0_mixTold 50 = .ok (.aload_n 0, 1) := by decide +kernel
theorem dX0_mixTold_51 : decode cX0_mixTold 51 = .ok (.getfield 19, 3) := by decide +kernel
theorem dX0_mixTold_54 : decode cX0_mixTold 54 = .ok (.iload 5, 2) := by decide +kernel
theorem dX0_mixTold_56 : decode cX0_mixTold 56 = .ok (.iaload, 1) := by decide +kernel
theorem dX0_mixTold_57 : decode cX0_mixTold 57 = .ok (.i2l, 1) := by decide +kernel
theorem dX0_mixTold_58 : decode cX0_mixTold 58 = .ok (.ladd, 1) := by decide +kernel
theorem dX0_mixTold_59 : decode cX0_mixTold 59 = .ok (.lstore_n 3, 1) := by decide +kernel
theorem dX0_mixTold_60 : decode cX0_mixTold 60 = .ok (.ldc2_w 141, 3) := by decide +kernel
theorem dX0_mixTold_63 : decode cX0_mixTold 63 = .ok (.lload_n 3, 1) := by decide +kernel
theorem dX0_mixTold_64 : decode cX0_mixTold 64 = .ok (.lmul, 1) := by decide +kernel
theorem dX0_mixTold_65 : decode cX0_mixTold 65 = .ok (.aload_n 0, 1) := by decide +kernel
theorem dX0_mixTold_66 : decode cX0_mixTold 66 = .ok (.getfield 22, 3) := by decide +kernel
theorem dX0_mixTold_69 : decode cX0_mixTold 69 = .ok (.iload 5, 2) := by decide +kernel
theorem dX0_mixTold_71 : decode cX0_mixTold 71 = .ok (.iaload, 1) := by decide +kernel
theorem dX0_mixTold_72 : decode cX0_mixTold 72 = .ok (.i2l, 1) := by decide +kernel
theorem dX0_mixTold_73 : decode cX0_mixTold 73 = .ok (.ladd, 1) := by decide +kernel
theorem dX0_mixTold_74 : decode cX0_mixTold 74 = .ok (.lstore_n 3, 1) := by decide +kernel
theorem dX0_mixTold_75 : decode cX0_mixTold 75 = .ok (.ldc2_w 141, 3) := by decide +kernel
theorem dX0_mixTold_78 : decode cX0_mixTold 78 = .ok (.lload_n 3, 1) := by decide +kernel
theorem dX0_mixTold_79 : decode cX0_mixTold 79 = .ok (.lmul, 1) := by decide +kernel
theorem dX0_mixTold_80 : decode cX0_mixTold 80 = .ok (.aload_n 0, 1) := by decide +kernel
theorem dX0_mixTold_81 : decode cX0_mixTold 81 = .ok (.getfield 25, 3) := by decide +kernel
theorem dX0_mixTold_84 : decode cX0_mixTold 84 = .ok (.iload 5, 2) := by decide +kernel
theorem dX0_mixTold_86 : decode cX0_mixTold 86 = .ok (.iaload, 1) := by decide +kernel
theorem dX0_mixTold_87 : decode cX0_mixTold 87 = .ok (.i2l, 1) := by decide +kernel
theorem dX0_mixTold_88 : decode cX0_mixTold 88 = .ok (.ladd, 1) := by decide +kernel
theorem dX0_mixTold_89 : decode cX0_mixTold 89 = .ok (.lstore_n 3, 1) := by decide +kernel
theorem dX0_mixTold_90 : decode cX0_mixTold 90 = .ok (.ldc2_w 141, 3) := by decide +kernel
theorem dX0_mixTold_93 : decode cX0_mixTold 93 = .ok (.lload_n 3, 1) := by decide +kernel
theorem dX0_mixTold_94 : decode cX0_mixTold 94 = .ok (.lmul, 1) := by decide +kernel
theorem dX0_mixTold_95 : decode cX0_mixTold 95 = .ok (.aload_n 0, 1) := by decide +kernel
theorem dX0_mixTold_96 : decode cX0_mixTold 96 = .ok (.getfield 28, 3) := by decide +kernel
theorem dX0_mixTold_99 : decode cX0_mixTold 99 = .ok (.iload 5, 2) := by decide +kernel
theorem dX0_mixTold_101 : decode cX0_mixTold 101 = .ok (.iaload, 1) := by decide +kernel
theorem dX0_mixTold_102 : decode cX0_mixTold 102 = .ok (.i2l, 1) := by decide +kernel
theorem dX0_mixTold_103 : decode cX0_mixTold 103 = .ok (.ladd, 1) := by decide +kernel
theorem dX0_mixTold_104 : decode cX0_mixTold 104 = .ok (.lstore_n 3, 1) := by decide +kernel
theorem dX0_mixTold_105 : decode cX0_mixTold 105 = .ok (.ldc2_w 141, 3) := by decide +kernel
theorem dX0_mixTold_108 : decode cX0_mixTold 108 = .ok (.lload_n 3, 1) := by decide +kernel
theorem dX0_mixTold_109 : decode cX0_mixTold 109 = .ok (.lmul, 1) := by decide +kernel
theorem dX0_mixTold_110 : decode cX0_mixTold 110 = .ok (.aload_n 0, 1) := by decide +kernel
theorem dX0_mixTold_111 : decode cX0_mixTold 111 = .ok (.getfield 31, 3) := by decide +kernel
theorem dX0_mixTold_114 : decode cX0_mixTold 114 = .ok (.iload 5, 2) := by decide +kernel
theorem dX0_mixTold_116 : decode cX0_mixTold 116 = .ok (.iaload, 1) := by decide +kernel
theorem dX0_mixTold_117 : decode cX0_mixTold 117 = .ok (.i2l, 1) := by decide +kernel
theorem dX0_mixTold_118 : decode cX0_mixTold 118 = .ok (.ladd, 1) := by decide +kernel
theorem dX0_mixTold_119 : decode cX0_mixTold 119 = .ok (.lstore_n 3, 1) := by decide +kernel
theorem dX0_mixTold_120 : decode cX0_mixTold 120 = .ok (.iinc 5 1, 3) := by decide +kernel
theorem dX0_mixTold_123 : decode cX0_mixTold 123 = .ok (.goto (-87), 3) := by decide +kernel
theorem dX0_mixTold_126 : decode cX0_mixTold 126 = .ok (.iconst 0, 1) := by decide +kernel
theorem dX0_mixTold_127 : decode cX0_mixTold 127 = .ok (.istore 5, 2) := by decide +kernel
theorem dX0_mixTold_129 : decode cX0_mixTold 129 = .ok (.iload 5, 2) := by decide +kernel
theorem dX0_mixTold_131 : decode cX0_mixTold 131 = .ok (.aload_n 0, 1) := by decide +kernel
theorem dX0_mixTold_132 : decode cX0_mixTold 132 = .ok (.getfield 60, 3) := by decide +kernel
theorem dX0_mixTold_135 : decode cX0_mixTold 135 = .ok (.if_icmp .ge 69, 3) := by decide +kernel
theorem dX0_mixTold_138 : decode cX0_mixTold 138 = .ok (.ldc2_w 141, 3) := by decide +kernel
theorem dX0_mixTold_141 : decode cX0_mixTold 141 = .ok (.lload_n 3, 1) := by decide +kernel
theorem dX0_mixTold_142 : decode cX0_mixTold 142 = .ok (.lmul, 1) := by decide +kernel
theorem dX0_mixTold_143 : decode cX0_mixTold 143 = .ok (.aload_n 0, 1) := by decide +kernel
theorem dX0_mixTold_144 : decode cX0_mixTold 144 = .ok (.getfield 34, 3) := by decide +kernel
theorem dX0_mixTold_147 : decode cX0_mixTold 147 = .ok (.iload 5, 2) := by decide +kernel
theorem dX0_mixTold_149 : decode cX0_mixTold 149 = .ok (.iaload, 1) := by decide +kernel
theorem dX0_mixTold_150 : decode cX0_mixTold 150 = .ok (.i2l, 1) := by decide +kernel
theorem dX0_mixTold_151 : decode cX0_mixTold 151 = .ok (.ladd, 1) := by decide +kernel
theorem dX0_mixTold_152 : decode cX0_mixTold 152 = .ok (.lstore_n 3, 1) := by decide +kernel
theorem dX0_mixTold_153 : decode cX0_mixTold 153 = .ok (.ldc2_w 141, 3) := by decide +kernel
theorem dX0_mixTold_156 : decode cX0_mixTold 156 = .ok (.lload_n 3, 1) := by decide +kernel
theorem dX0_mixTold_157 : decode cX0_mixTold 157 = .ok (.lmul, 1) := by decide +kernel
theorem dX0_mixTold_158 : decode cX0_mixTold 158 = .ok (.aload_n 0, 1) := by decide +kernel
theorem dX0_mixTold_159 : decode cX0_mixTold 159 = .ok (.getfield 37, 3) := by decide +kernel
theorem dX0_mixTold_162 : decode cX0_mixTold 162 = .ok (.iload 5, 2) := by decide +kernel
theorem dX0_mixTold_164 : decode cX0_mixTold 164 = .ok (.iaload, 1) := by decide +kernel
theorem dX0_mixTold_165 : decode cX0_mixTold 165 = .ok (.i2l, 1) := by decide +kernel
theorem dX0_mixTold_166 : decode cX0_mixTold 166 = .ok (.ladd, 1) := by decide +kernel
theorem dX0_mixTold_167 : decode cX0_mixTold 167 = .ok (.lstore_n 3, 1) := by decide +kernel
theorem dX0_mixTold_168 : decode cX0_mixTold 168 = .ok (.ldc2_w 141, 3) := by decide +kernel
theorem dX0_mixTold_171 : decode cX0_mixTold 171 = .ok (.lload_n 3, 1) := by decide +kernel
theorem dX0_mixTold_172 : decode cX0_mixTold 172 = .ok (.lmul, 1) := by decide +kernel
theorem dX0_mixTold_173 : decode cX0_mixTold 173 = .ok (.aload_n 0, 1) := by decide +kernel
theorem dX0_mixTold_174 : decode cX0_mixTold 174 = .ok (.getfield 40, 3) := by decide +kernel
theorem dX0_mixTold_177 : decode cX0_mixTold 177 = .ok (.iload 5, 2) := by decide +kernel
theorem dX0_mixTold_179 : decode cX0_mixTold 179 = .ok (.iaload, 1) := by decide +kernel
theorem dX0_mixTold_180 : decode cX0_mixTold 180 = .ok (.i2l, 1) := by decide +kernel
theorem dX0_mixTold_181 : decode cX0_mixTold 181 = .ok (.ladd, 1) := by decide +kernel
theorem dX0_mixTold_182 : decode cX0_mixTold 182 = .ok (.lstore_n 3, 1) := by decide +kernel
theorem dX0_mixTold_183 : decode cX0_mixTold 183 = .ok (.ldc2_w 141, 3) := by decide +kernel
theorem dX0_mixTold_186 : decode cX0_mixTold 186 = .ok (.lload_n 3, 1) := by decide +kernel
theorem dX0_mixTold_187 : decode cX0_mixTold 187 = .ok (.lmul, 1) := by decide +kernel
theorem dX0_mixTold_188 : decode cX0_mixTold 188 = .ok (.aload_n 0, 1) := by decide +kernel
theorem dX0_mixTold_189 : decode cX0_mixTold 189 = .ok (.getfield 43, 3) := by decide +kernel
theorem dX0_mixTold_192 : decode cX0_mixTold 192 = .ok (.iload 5, 2) := by decide +kernel
theorem dX0_mixTold_194 : decode cX0_mixTold 194 = .ok (.iaload, 1) := by decide +kernel
theorem dX0_mixTold_195 : decode cX0_mixTold 195 = .ok (.i2l, 1) := by decide +kernel
theorem dX0_mixTold_196 : decode cX0_mixTold 196 = .ok (.ladd, 1) := by decide +kernel
theorem dX0_mixTold_197 : decode cX0_mixTold 197 = .ok (.lstore_n 3, 1) := by decide +kernel
theorem dX0_mixTold_198 : decode cX0_mixTold 198 = .ok (.iinc 5 1, 3) := by decide +kernel
theorem dX0_mixTold_201 : decode cX0_mixTold 201 = .ok (.goto (-72), 3) := by decide +kernel
theorem dX0_mixTold_204 : decode cX0_mixTold 204 = .ok (.lload_n 3, 1) := by decide +kernel
theorem dX0_mixTold_205 : decode cX0_mixTold 205 = .ok (.lreturn, 1) := by decide +kernel
theorem dX1_init_0 : decode cX1_init 0 = .ok (.aload_n 0, 1) := by decide +kernel
theorem dX1_init_1 : decode cX1_init 1 = .ok (.invokespecial 3, 3) := by decide +kernel
theorem dX1_init_4 : decode cX1_init 4 = .ok (.aload_n 0, 1) := by decide +kernel
theorem dX1_init_5 : decode cX1_init 5 = .ok (.bipush 7, 2) := by decide +kernel
theorem dX1_init_7 : decode cX1_init 7 = .ok (.newarray .int, 2) := by decide +kernel
theorem dX1_init_9 : decode cX1_init 9 = .ok (.putfield 9, 3) := by decide +kernel
theorem dX1_init_12 : decode cX1_init 12 = .ok (.return_, 1) := by decide +kernel
theorem dX1_fewest_0 : decode cX1_fewest 0 = .ok (.iconst 0, 1) := by decide +kernel
theorem dX1_fewest_1 : decode cX1_fewest 1 = .ok (.istore_n 2, 1) := by decide +kernel
theorem dX1_fewest_2 : decode cX1_fewest 2 = .ok (.iload_n 2, 1) := by decide +kernel
theorem dX1_fewest_3 : decode cX1_fewest 3 = .ok (.bipush 7, 2) := by decide +kernel
theorem dX1_fewest_5 : decode cX1_fewest 5 = .ok (.if_icmp .gt 24, 3) := by decide +kernel
theorem dX1_fewest_8 : decode cX1_fewest 8 = .ok (.aload_n 1, 1) := by decide +kernel
theorem dX1_fewest_9 : decode cX1_fewest 9 = .ok (.aload_n 0, 1) := by decide +kernel
theorem dX1_fewest_10 : decode cX1_fewest 10 = .ok (.getfield 9, 3) := by decide +kernel
theorem dX1_fewest_13 : decode cX1_fewest 13 = .ok (.iconst 0, 1) := by decide +kernel
theorem dX1_fewest_14 : decode cX1_fewest 14 = .ok (.iload_n 2, 1) := by decide +kernel
theorem dX1_fewest_15 : decode cX1_fewest 15 = .ok (.invokestatic 15, 3) := by decide +kernel
theorem dX1_fewest_18 : decode cX1_fewest 18 = .ok (.ifCond .eq 5, 3) := by decide +kernel
theorem dX1_fewest_21 : decode cX1_fewest 21 = .ok (.iload_n 2, 1) := by decide +kernel
theorem dX1_fewest_22 : decode cX1_fewest 22 = .ok (.ireturn, 1) := by decide +kernel
theorem dX1_fewest_23 : decode cX1_fewest 23 = .ok (.iinc 2 1, 3) := by decide +kernel
theorem dX1_fewest_26 : decode cX1_fewest 26 = .ok (.goto (-24), 3) := by decide +kernel
theorem dX1_fewest_29 : decode cX1_fewest 29 = .ok (.bipush 7, 2) := by decide +kernel
theorem dX1_fewest_31 : decode cX1_fewest 31 = .ok (.ireturn, 1) := by decide +kernel
theorem dX1_canPlace_0 : decode cX1_canPlace 0 = .ok (.iload_n 2, 1) := by decide +kernel
theorem dX1_canPlace_1 : decode cX1_canPlace 1 = .ok (.aload_n 0, 1) := by decide +kernel
theorem dX1_canPlace_2 : decode cX1_canPlace 2 = .ok (.getfield 19, 3) := by decide +kernel
theorem dX1_canPlace_5 : decode cX1_canPlace 5 = .ok (.if_icmp .ge 9, 3) := by decide +kernel
theorem dX1_canPlace_8 : decode cX1_canPlace 8 = .ok (.iload_n 2, 1) := by decide +kernel
theorem dX1_canPlace_9 : decode cX1_canPlace 9 = .ok (.bipush 7, 2) := by decide +kernel
theorem dX1_canPlace_11 : decode cX1_canPlace 11 = .ok (.if_icmp .lt 5, 3) := by decide +kernel
theorem dX1_canPlace_14 : decode cX1_canPlace 14 = .ok (.iconst 1, 1) := by decide +kernel
theorem dX1_canPlace_15 : decode cX1_canPlace 15 = .ok (.ireturn, 1) := by decide +kernel
theorem dX1_canPlace_16 : decode cX1_canPlace 16 = .ok (.iconst 0, 1) := by decide +kernel
theorem dX1_canPlace_17 : decode cX1_canPlace 17 = .ok (.istore 4, 2) := by decide +kernel
theorem dX1_canPlace_19 : decode cX1_canPlace 19 = .ok (.iload 4, 2) := by decide +kernel
theorem dX1_canPlace_21 : decode cX1_canPlace 21 = .ok (.iload_n 3, 1) := by decide +kernel
theorem dX1_canPlace_22 : decode cX1_canPlace 22 = .ok (.if_icmp .ge 42, 3) := by decide +kernel
theorem dX1_canPlace_25 : decode cX1_canPlace 25 = .ok (.aload_n 0, 1) := by decide +kernel
theorem dX1_canPlace_26 : decode cX1_canPlace 26 = .ok (.aload_n 1, 1) := by decide +kernel
theorem dX1_canPlace_27 : decode cX1_canPlace 27 = .ok (.iload_n 2, 1) := by decide +kernel
theorem dX1_canPlace_28 : decode cX1_canPlace 28 = .ok (.iload 4, 2) := by decide +kernel
theorem dX1_canPlace_30 : decode cX1_canPlace 30 = .ok (.invokestatic 25, 3) := by decide +kernel
theorem dX1_canPlace_33 : decode cX1_canPlace 33 = .ok (.ifCond .ne 6, 3) := by decide +kernel
theorem dX1_canPlace_36 : decode cX1_canPlace 36 = .ok (.goto 22, 3) := by decide +kernel
theorem dX1_canPlace_39 : decode cX1_canPlace 39 = .ok (.aload_n 1, 1) := by decide +kernel
theorem dX1_canPlace_40 : decode cX1_canPlace 40 = .ok (.iload_n 2, 1) := by decide +kernel
theorem dX1_canPlace_41 : decode cX1_canPlace 41 = .ok (.iload 4, 2) := by decide +kernel
theorem dX1_canPlace_43 : decode cX1_canPlace 43 = .ok (.iastore, 1) := by decide +kernel
theorem dX1_canPlace_44 : decode cX1_canPlace 44 = .ok (.aload_n 0, 1) := by decide +kernel
theorem dX1_canPlace_45 : decode cX1_canPlace 45 = .ok (.aload_n 1, 1) := by decide +kernel
theorem dX1_canPlace_46 : decode cX1_canPlace 46 = .ok (.iload_n 2, 1) := by decide +kernel
theorem dX1_canPlace_47 : decode cX1_canPlace 47 = .ok (.iconst 1, 1) := by decide +kernel
theorem dX1_canPlace_48 : decode cX1_canPlace 48 = .ok (.iadd, 1) := by decide +kernel
theorem dX1_canPlace_49 : decode cX1_canPlace 49 = .ok (.iload_n 3, 1) := by decide +kernel
theorem dX1_canPlace_50 : decode cX1_canPlace 50 = .ok (.invokestatic 15, 3) := by decide +kernel
theorem dX1_canPlace_53 : decode cX1_canPlace 53 = .ok (.ifCond .eq 5, 3) := by decide +kernel
theorem dX1_canPlace_56 : decode cX1_canPlace 56 = .ok (.iconst 1, 1) := by decide +kernel
theorem dX1_canPlace_57 : decode cX1_canPlace 57 = .ok (.ireturn, 1) := by decide +kernel
theorem dX1_canPlace_58 : decode cX1_canPlace 58 = .ok (.iinc 4 1, 3) := by decide +kernel
theorem dX1_canPlace_61 : decode cX1_canPlace 61 = .ok (.goto (-42), 3) := by decide +kernel
theorem dX1_canPlace_64 : decode cX1_canPlace 64 = .ok (.iconst 0, 1) := by decide +kernel
theorem dX1_canPlace_65 : decode cX1_canPlace 65 = .ok (.ireturn, 1) := by decide +kernel
theorem dX1_isCalm_0 : decode cX1_isCalm 0 = .ok (.iconst 0, 1) := by decide +kernel
theorem dX1_isCalm_1 : decode cX1_isCalm 1 = .ok (.istore 4, 2) := by decide +kernel
theorem dX1_isCalm_3 : decode cX1_isCalm 3 = .ok (.iload 4, 2) := by decide +kernel
theorem dX1_isCalm_5 : decode cX1_isCalm 5 = .ok (.iload_n 2, 1) := by decide +kernel
theorem dX1_isCalm_6 : decode cX1_isCalm 6 = .ok (.if_icmp .ge 34, 3) := by decide +kernel
theorem dX1_isCalm_9 : decode cX1_isCalm 9 = .ok (.aload_n 1, 1) := by decide +kernel
theorem dX1_isCalm_10 : decode cX1_isCalm 10 = .ok (.iload 4, 2) := by decide +kernel
theorem dX1_isCalm_12 : decode cX1_isCalm 12 = .ok (.iaload, 1) := by decide +kernel
theorem dX1_isCalm_13 : decode cX1_isCalm 13 = .ok (.iload_n 3, 1) := by decide +kernel
theorem dX1_isCalm_14 : decode cX1_isCalm 14 = .ok (.if_icmp .ne 20, 3) := by decide +kernel
theorem dX1_isCalm_17 : decode cX1_isCalm 17 = .ok (.aload_n 0, 1) := by decide +kernel
theorem dX1_isCalm_18 : decode cX1_isCalm 18 = .ok (.getfield 28, 3) := by decide +kernel
theorem dX1_isCalm_21 : decode cX1_isCalm 21 = .ok (.iload_n 2, 1) := by decide +kernel
theorem dX1_isCalm_22 : decode cX1_isCalm 22 = .ok (.iaload, 1) := by decide +kernel
theorem dX1_isCalm_23 : decode cX1_isCalm 23 = .ok (.iload 4, 2) := by decide +kernel
theorem dX1_isCalm_25 : decode cX1_isCalm 25 = .ok (.invokestatic 31, 3) := by decide +kernel
theorem dX1_isCalm_28 : decode cX1_isCalm 28 = .ok (.iconst 1, 1) := by decide +kernel
theorem dX1_isCalm_29 : decode cX1_isCalm 29 = .ok (.if_icmp .ne 5, 3) := by decide +kernel
theorem dX1_isCalm_32 : decode cX1_isCalm 32 = .ok (.iconst 0, 1) := by decide +kernel
theorem dX1_isCalm_33 : decode cX1_isCalm 33 = .ok (.ireturn, 1) := by decide +kernel
theorem dX1_isCalm_34 : decode cX1_isCalm 34 = .ok (.iinc 4 1, 3) := by decide +kernel
theorem dX1_isCalm_37 : decode cX1_isCalm 37 = .ok (.goto (-34), 3) := by decide +kernel
theorem dX1_isCalm_40 : decode cX1_isCalm 40 = .ok (.iconst 1, 1) := by decide +kernel
theorem dX1_isCalm_41 : decode cX1_isCalm 41 = .ok (.ireturn, 1) := by decide +kernel
theorem dX2_init_0 : decode cX2_init 0 = .ok (.aload_n 0, 1) := by decide +kernel
theorem dX2_init_1 : decode cX2_init 1 = .ok (.invokespecial 1, 3) := by decide +kernel
theorem dX2_init_4 : decode cX2_init 4 = .ok (.aload_n 0, 1) := by decide +kernel
theorem dX2_init_5 : decode cX2_init 5 = .ok (.lconst 0, 1) := by decide +kernel
theorem dX2_init_6 : decode cX2_init 6 = .ok (.putfield 7, 3) := by decide +kernel
theorem dX2_init_9 : decode cX2_init 9 = .ok (.aload_n 0, 1) := by decide +kernel
theorem dX2_init_10 : decode cX2_init 10 = .ok (.lconst 1, 1) := by decide +kernel
theorem dX2_init_11 : decode cX2_init 11 = .ok (.putfield 13, 3) := by decide +kernel
theorem dX2_init_14 : decode cX2_init 14 = .ok (.return_, 1) := by decide +kernel
theorem dX2_become_0 : decode cX2_become 0 = .ok (.lload_n 1, 1) := by decide +kernel
theorem dX2_become_1 : decode cX2_become 1 = .ok (.lload_n 3, 1) := by decide +kernel
theorem dX2_become_2 : decode cX2_become 2 = .ok (.invokestatic 16, 3) := by decide +kernel
theorem dX2_become_5 : decode cX2_become 5 = .ok (.lstore 5, 2) := by decide +kernel
theorem dX2_become_7 : decode cX2_become 7 = .ok (.lload 5, 2) := by decide +kernel
theorem dX2_become_9 : decode cX2_become 9 = .ok (.lconst 0, 1) := by decide +kernel
theorem dX2_become_10 : decode cX2_become 10 = .ok (.lcmp, 1) := by decide +kernel
theorem dX2_become_11 : decode cX2_become 11 = .ok (.ifCond .ne 4, 3) := by decide +kernel
theorem dX2_become_14 : decode cX2_become 14 = .ok (.return_, 1) := by decide +kernel
theorem dX2_become_15 : decode cX2_become 15 = .ok (.aload_n 0, 1) := by decide +kernel
theorem dX2_become_16 : decode cX2_become 16 = .ok (.lload_n 1, 1) := by decide +kernel
theorem dX2_become_17 : decode cX2_become 17 = .ok (.lload 5, 2) := by decide +kernel
theorem dX2_become_19 : decode cX2_become 19 = .ok (.ldiv, 1) := by decide +kernel
theorem dX2_become_20 : decode cX2_become 20 = .ok (.putfield 7, 3) := by decide +kernel
theorem dX2_become_23 : decode cX2_become 23 = .ok (.aload_n 0, 1) := by decide +kernel
theorem dX2_become_24 : decode cX2_become 24 = .ok (.lload_n 3, 1) := by decide +kernel
theorem dX2_become_25 : decode cX2_become 25 = .ok (.lload 5, 2) := by decide +kernel
theorem dX2_become_27 : decode cX2_become 27 = .ok (.ldiv, 1) := by decide +kernel
theorem dX2_become_28 : decode cX2_become 28 = .ok (.putfield 13, 3) := by decide +kernel
theorem dX2_become_31 : decode cX2_become 31 = .ok (.return_, 1) := by decide +kernel
theorem dX2_commonDivisor_0 : decode cX2_commonDivisor 0 = .ok (.lload_n 0, 1) := by decide +kernel
theorem dX2_commonDivisor_1 : decode cX2_commonDivisor 1 = .ok (.lstore 4, 2) := by decide +kernel
theorem dX2_commonDivisor_3 : decode cX2_commonDivisor 3 = .ok (.lload_n 2, 1) := by decide +kernel
theorem dX2_commonDivisor_4 : decode cX2_commonDivisor 4 = .ok (.lstore 6, 2) := by decide +kernel
theorem dX2_commonDivisor_6 : decode cX2_commonDivisor 6 = .ok (.iconst 0, 1) := by decide +kernel
theorem dX2_commonDivisor_7 : decode cX2_commonDivisor 7 = .ok (.istore 8, 2) := by decide +kernel
theorem dX2_commonDivisor_9 : decode cX2_commonDivisor 9 = .ok (.iload 8, 2) := by decide +kernel
theorem dX2_commonDivisor_11 : decode cX2_commonDivisor 11 = .ok (.bipush 100, 2) := by decide +kernel
theorem dX2_commonDivisor_13 : decode cX2_commonDivisor 13 = .ok (.if_icmp .ge 31, 3) := by decide +kernel
theorem dX2_commonDivisor_16 : decode cX2_commonDivisor 16 = .ok (.lload 6, 2) := by decide +kernel
theorem dX2_commonDivisor_18 : decode cX2_commonDivisor 18 = .ok (.lconst 0, 1) := by decide +kernel
theorem dX2_commonDivisor_19 : decode cX2_commonDivisor 19 = .ok (.lcmp, 1) := by decide +kernel
theorem dX2_commonDivisor_20 : decode cX2_commonDivisor 20 = .ok (.ifCond .eq 24, 3) := by decide +kernel
theorem dX2_commonDivisor_23 : decode cX2_commonDivisor 23 = .ok (.lload 4, 2) := by decide +kernel
theorem dX2_commonDivisor_25 : decode cX2_commonDivisor 25 = .ok (.lload 6, 2) := by decide +kernel
theorem dX2_commonDivisor_27 : decode cX2_commonDivisor 27 = .ok (.lrem, 1) := by decide +kernel
theorem dX2_commonDivisor_28 : decode cX2_commonDivisor 28 = .ok (.lstore 9, 2) := by decide +kernel
theorem dX2_commonDivisor_30 : decode cX2_commonDivisor 30 = .ok (.lload 6, 2) := by decide +kernel
theorem dX2_commonDivisor_32 : decode cX2_commonDivisor 32 = .ok (.lstore 4, 2) := by decide +kernel
theorem dX2_commonDivisor_34 : decode cX2_commonDivisor 34 = .ok (.lload 9, 2) := by decide +kernel
theorem dX2_commonDivisor_36 : decode cX2_commonDivisor 36 = .ok (.lstore 6, 2) := by decide +kernel
theorem dX2_commonDivisor_38 : decode cX2_commonDivisor 38 = .ok (.iinc 8 1, 3) := by decide +kernel
theorem dX2_commonDivisor_41 : decode cX2_commonDivisor 41 = .ok (.goto (-32), 3) := by decide +kernel
theorem dX2_commonDivisor_44 : decode cX2_commonDivisor 44 = .ok (.lload 4, 2) := by decide +kernel
theorem dX2_commonDivisor_46 : decode cX2_commonDivisor 46 = .ok (.lreturn, 1) := by decide +kernel
theorem dX3_init_0 : decode cX3_init 0 = .ok (.aload_n 0, 1) := by decide +kernel
theorem dX3_init_1 : decode cX3_init 1 = .ok (.invokespecial 3, 3) := by decide +kernel
theorem dX3_init_4 : decode cX3_init 4 = .ok (.aload_n 0, 1) := by decide +kernel
theorem dX3_init_5 : decode cX3_init 5 = .ok (.new 9, 3) := by decide +kernel
theorem dX3_init_8 : decode cX3_init 8 = .ok (.dup, 1) := by decide +kernel
theorem dX3_init_9 : decode cX3_init 9 = .ok (.invokespecial 11, 3) := by decide +kernel
theorem dX3_init_12 : decode cX3_init 12 = .ok (.putfield 12, 3) := by decide +kernel
theorem dX3_init_15 : decode cX3_init 15 = .ok (.aload_n 0, 1) := by decide +kernel
theorem dX3_init_16 : decode cX3_init 16 = .ok (.bipush 7, 2) := by decide +kernel
theorem dX3_init_18 : decode cX3_init 18 = .ok (.newarray .int, 2) := by decide +kernel
theorem dX3_init_20 : decode cX3_init 20 = .ok (.putfield 18, 3) := by decide +kernel
theorem dX3_init_23 : decode cX3_init 23 = .ok (.return_, 1) := by decide +kernel
theorem dX3_goOn_0 : decode cX3_goOn 0 = .ok (.aload_n 0, 1) := by decide +kernel
theorem dX3_goOn_1 : decode cX3_goOn 1 = .ok (.getfield 12, 3) := by decide +kernel
theorem dX3_goOn_4 : decode cX3_goOn 4 = .ok (.aload_n 1, 1) := by decide +kernel
theorem dX3_goOn_5 : decode cX3_goOn 5 = .ok (.getfield 22, 3) := by decide +kernel
theorem dX3_goOn_8 : decode cX3_goOn 8 = .ok (.invokevirtual 25, 3) := by decide +kernel
theorem dX3_goOn_11 : decode cX3_goOn 11 = .ok (.aload_n 0, 1) := by decide +kernel
theorem dX3_goOn_12 : decode cX3_goOn 12 = .ok (.aload_n 1, 1) := by decide +kernel
theorem dX3_goOn_13 : decode cX3_goOn 13 = .ok (.invokevirtual 29, 3) := by decide +kernel
theorem dX3_goOn_16 : decode cX3_goOn 16 = .ok (.return_, 1) := by decide +kernel
theorem dX3_startAnew_0 : decode cX3_startAnew 0 = .ok (.aload_n 0, 1) := by decide +kernel
theorem dX3_startAnew_1 : decode cX3_startAnew 1 = .ok (.getfield 12, 3) := by decide +kernel
theorem dX3_startAnew_4 : decode cX3_startAnew 4 = .ok (.invokevirtual 33, 3) := by decide +kernel
theorem dX3_startAnew_7 : decode cX3_startAnew 7 = .ok (.aload_n 0, 1) := by decide +kernel
theorem dX3_startAnew_8 : decode cX3_startAnew 8 = .ok (.aload_n 1, 1) := by decide +kernel
theorem dX3_startAnew_9 : decode cX3_startAnew 9 = .ok (.invokevirtual 29, 3) := by decide +kernel
theorem dX3_startAnew_12 : decode cX3_startAnew 12 = .ok (.return_, 1) := by decide +kernel
theorem dX3_boardAsTold_0 : decode cX3_boardAsTold 0 = .ok (.aload_n 1, 1) := by decide +kernel
theorem dX3_boardAsTold_1 : decode cX3_boardAsTold 1 = .ok (.getfield 36, 3) := by decide +kernel
theorem dX3_boardAsTold_4 : decode cX3_boardAsTold 4 = .ok (.iconst 0, 1) := by decide +kernel
theorem dX3_boardAsTold_5 : decode cX3_boardAsTold 5 = .ok (.aload_n 0, 1) := by decide +kernel
theorem dX3_boardAsTold_6 : decode cX3_boardAsTold 6 = .ok (.getfield 18, 3) := by decide +kernel
theorem dX3_boardAsTold_9 : decode cX3_boardAsTold 9 = .ok (.iconst 0, 1) := by decide +kernel
theorem dX3_boardAsTold_10 : decode cX3_boardAsTold 10 = .ok (.bipush 7, 2) := by decide +kernel
theorem dX3_boardAsTold_12 : decode cX3_boardAsTold 12 = .ok (.invokestatic 39, 3) := by decide +kernel
theorem dX3_boardAsTold_15 : decode cX3_boardAsTold 15 = .ok (.aload_n 0, 1) := by decide +kernel
theorem dX3_boardAsTold_16 : decode cX3_boardAsTold 16 = .ok (.iconst 0, 1) := by decide +kernel
theorem dX3_boardAsTold_17 : decode cX3_boardAsTold 17 = .ok (.putfield 45, 3) := by decide +kernel
theorem dX3_boardAsTold_20 : decode cX3_boardAsTold 20 = .ok (.return_, 1) := by decide +kernel
theorem dX3_passThrough_0 : decode cX3_passThrough 0 = .ok (.aload_n 0, 1) := by decide +kernel
theorem dX3_passThrough_1 : decode cX3_passThrough 1 = .ok (.getfield 12, 3) := by decide +kernel
theorem dX3_passThrough_4 : decode cX3_passThrough 4 = .ok (.getfield 49, 3) := by decide +kernel
theorem dX3_passThrough_7 : decode cX3_passThrough 7 = .ok (.istore_n 3, 1) := by decide +kernel
theorem dX3_passThrough_8 : decode cX3_passThrough 8 = .ok (.iload_n 3, 1) := by decide +kernel
theorem dX3_passThrough_9 : decode cX3_passThrough 9 = .ok (.iload_n 2, 1) := by decide +kernel
theorem dX3_passThrough_10 : decode cX3_passThrough 10 = .ok (.if_icmp .gt 25, 3) := by decide +kernel
theorem dX3_passThrough_13 : decode cX3_passThrough 13 = .ok (.aload_n 1, 1) := by decide +kernel
theorem dX3_passThrough_14 : decode cX3_passThrough 14 = .ok (.aload_n 0, 1) := by decide +kernel
theorem dX3_passThrough_15 : decode cX3_passThrough 15 = .ok (.getfield 12, 3) := by decide +kernel
theorem dX3_passThrough_18 : decode cX3_passThrough 18 = .ok (.aload_n 0, 1) := by decide +kernel
theorem dX3_passThrough_19 : decode cX3_passThrough 19 = .ok (.getfield 18, 3) := by decide +kernel
theorem dX3_passThrough_22 : decode cX3_passThrough 22 = .ok (.aload_n 0, 1) := by decide +kernel
theorem dX3_passThrough_23 : decode cX3_passThrough 23 = .ok (.getfield 45, 3) := by decide +kernel
theorem dX3_passThrough_26 : decode cX3_passThrough 26 = .ok (.invokevirtual 52, 3) := by decide +kernel
theorem dX3_passThrough_29 : decode cX3_passThrough 29 = .ok (.iinc 3 1, 3) := by decide +kernel
theorem dX3_passThrough_32 : decode cX3_passThrough 32 = .ok (.goto (-24), 3) := by decide +kernel
theorem dX3_passThrough_35 : decode cX3_passThrough 35 = .ok (.return_, 1) := by decide +kernel
theorem dX3_missing_0 : decode cX3_missing 0 = .ok (.aload_n 0, 1) := by decide +kernel
theorem dX3_missing_1 : decode cX3_missing 1 = .ok (.getfield 12, 3) := by decide +kernel
theorem dX3_missing_4 : decode cX3_missing 4 = .ok (.getfield 56, 3) := by decide +kernel
theorem dX3_missing_7 : decode cX3_missing 7 = .ok (.aload_n 0, 1) := by decide +kernel
theorem dX3_missing_8 : decode cX3_missing 8 = .ok (.getfield 12, 3) := by decide +kernel
theorem dX3_missing_11 : decode cX3_missing 11 = .ok (.getfield 59, 3) := by decide +kernel
theorem dX3_missing_14 : decode cX3_missing 14 = .ok (.ior, 1) := by decide +kernel
theorem dX3_missing_15 : decode cX3_missing 15 = .ok (.invokestatic 62, 3) := by decide +kernel
theorem dX3_missing_18 : decode cX3_missing 18 = .ok (.ireturn, 1) := by decide +kernel
theorem dX3_betterBoarding_0 : decode cX3_betterBoarding 0 = .ok (.aload_n 0, 1) := by decide +kernel
theorem dX3_betterBoarding_1 : decode cX3_betterBoarding 1 = .ok (.aload_n 1, 1) := by decide +kernel
theorem dX3_betterBoarding_2 : decode cX3_betterBoarding 2 = .ok (.invokevirtual 68, 3) := by decide +kernel
theorem dX3_betterBoarding_5 : decode cX3_betterBoarding 5 = .ok (.aload_n 0, 1) := by decide +kernel
theorem dX3_betterBoarding_6 : decode cX3_betterBoarding 6 = .ok (.aload_n 1, 1) := by decide +kernel
theorem dX3_betterBoarding_7 : decode cX3_betterBoarding 7 = .ok (.bipush 9, 2) := by decide +kernel
theorem dX3_betterBoarding_9 : decode cX3_betterBoarding 9 = .ok (.invokevirtual 70, 3) := by decide +kernel
theorem dX3_betterBoarding_12 : decode cX3_betterBoarding 12 = .ok (.aload_n 0, 1) := by decide +kernel
theorem dX3_betterBoarding_13 : decode cX3_betterBoarding 13 = .ok (.invokevirtual 74, 3) := by decide +kernel
theorem dX3_betterBoarding_16 : decode cX3_betterBoarding 16 = .ok (.istore_n 2, 1) := by decide +kernel
theorem dX3_betterBoarding_17 : decode cX3_betterBoarding 17 = .ok (.iconst (-1), 1) := by decide +kernel
theorem dX3_betterBoarding_18 : decode cX3_betterBoarding 18 = .ok (.istore_n 3, 1) := by decide +kernel
theorem dX3_betterBoarding_19 : decode cX3_betterBoarding 19 = .ok (.iconst 0, 1) := by decide +kernel
theorem dX3_betterBoarding_20 : decode cX3_betterBoarding 20 = .ok (.istore 4, 2) := by decide +kernel
theorem dX3_betterBoarding_22 : decode cX3_betterBoarding 22 = .ok (.iload 4, 2) := by decide +kernel
theorem dX3_betterBoarding_24 : decode cX3_betterBoarding 24 = .ok (.aload_n 1, 1) := by decide +kernel
theorem dX3_betterBoarding_25 : decode cX3_betterBoarding 25 = .ok (.getfield 78, 3) := by decide +kernel
theorem dX3_betterBoarding_28 : decode cX3_betterBoarding 28 = .ok (.if_icmp .ge 59, 3) := by decide +kernel
theorem dX3_betterBoarding_31 : decode cX3_betterBoarding 31 = .ok (.iconst 0, 1) := by decide +kernel
theorem dX3_betterBoarding_32 : decode cX3_betterBoarding 32 = .ok (.istore 5, 2) := by decide +kernel
theorem dX3_betterBoarding_34 : decode cX3_betterBoarding 34 = .ok (.iload 5, 2) := by decide +kernel
theorem dX3_betterBoarding_36 : decode cX3_betterBoarding 36 = .ok (.aload_n 1, 1) := by decide +kernel
theorem dX3_betterBoarding_37 : decode cX3_betterBoarding 37 = .ok (.getfield 81, 3) := by decide +kernel
theorem dX3_betterBoarding_40 : decode cX3_betterBoarding 40 = .ok (.iload 4, 2) := by decide +kernel
theorem dX3_betterBoarding_42 : decode cX3_betterBoarding 42 = .ok (.iaload, 1) := by decide +kernel
theorem dX3_betterBoarding_43 : decode cX3_betterBoarding 43 = .ok (.if_icmp .ge 38, 3) := by decide +kernel
theorem dX3_betterBoarding_46 : decode cX3_betterBoarding 46 = .ok (.aload_n 0, 1) := by decide +kernel
theorem dX3_betterBoarding_47 : decode cX3_betterBoarding 47 = .ok (.aload_n 1, 1) := by decide +kernel
theorem dX3_betterBoarding_48 : decode cX3_betterBoarding 48 = .ok (.iload 4, 2) := by decide +kernel
theorem dX3_betterBoarding_50 : decode cX3_betterBoarding 50 = .ok (.iload 5, 2) := by decide +kernel
theorem dX3_betterBoarding_52 : decode cX3_betterBoarding 52 = .ok (.invokevirtual 84, 3) := by decide +kernel
theorem dX3_betterBoarding_55 : decode cX3_betterBoarding 55 = .ok (.istore 6, 2) := by decide +kernel
theorem dX3_betterBoarding_57 : decode cX3_betterBoarding 57 = .ok (.iload 6, 2) := by decide +kernel
theorem dX3_betterBoarding_59 : decode cX3_betterBoarding 59 = .ok (.iload_n 2, 1) := by decide +kernel
theorem dX3_betterBoarding_60 : decode cX3_betterBoarding 60 = .ok (.if_icmp .ge 15, 3) := by decide +kernel
theorem dX3_betterBoarding_63 : decode cX3_betterBoarding 63 = .ok (.iload 6, 2) := by decide +kernel
theorem dX3_betterBoarding_65 : decode cX3_betterBoarding 65 = .ok (.istore_n 2, 1) := by decide +kernel
theorem dX3_betterBoarding_66 : decode cX3_betterBoarding 66 = .ok (.bipush 10, 2) := by decide +kernel
theorem dX3_betterBoarding_68 : decode cX3_betterBoarding 68 = .ok (.iload 4, 2) := by decide +kernel
theorem dX3_betterBoarding_70 : decode cX3_betterBoarding 70 = .ok (.imul, 1) := by decide +kernel
theorem dX3_betterBoarding_71 : decode cX3_betterBoarding 71 = .ok (.iload 5, 2) := by decide +kernel
theorem dX3_betterBoarding_73 : decode cX3_betterBoarding 73 = .ok (.iadd, 1) := by decide +kernel
theorem dX3_betterBoarding_74 : decode cX3_betterBoarding 74 = .ok (.istore_n 3, 1) := by decide +kernel
theorem dX3_betterBoarding_75 : decode cX3_betterBoarding 75 = .ok (.iinc 5 1, 3) := by decide +kernel
theorem dX3_betterBoarding_78 : decode cX3_betterBoarding 78 = .ok (.goto (-44), 3) := by decide +kernel
theorem dX3_betterBoarding_81 : decode cX3_betterBoarding 81 = .ok (.iinc 4 1, 3) := by decide +kernel
theorem dX3_betterBoarding_84 : decode cX3_betterBoarding 84 = .ok (.goto (-62), 3) := by decide +kernel
theorem dX3_betterBoarding_87 : decode cX3_betterBoarding 87 = .ok (.iload_n 3, 1) := by decide +kernel
theorem dX3_betterBoarding_88 : decode cX3_betterBoarding 88 = .ok (.ireturn, 1) := by decide +kernel
theorem dX3_missingIf_0 : decode cX3_missingIf 0 = .ok (.aload_n 0, 1) := by decide +kernel
theorem dX3_missingIf_1 : decode cX3_missingIf 1 = .ok (.aload_n 1, 1) := by decide +kernel
theorem dX3_missingIf_2 : decode cX3_missingIf 2 = .ok (.invokevirtual 68, 3) := by decide +kernel
theorem dX3_missingIf_5 : decode cX3_missingIf 5 = .ok (.iload_n 2, 1) := by decide +kernel
theorem dX3_missingIf_6 : decode cX3_missingIf 6 = .ok (.iconst 0, 1) := by decide +kernel
theorem dX3_missingIf_7 : decode cX3_missingIf 7 = .ok (.bipush 6, 2) := by decide +kernel
theorem dX3_missingIf_9 : decode cX3_missingIf 9 = .ok (.invokestatic 88, 3) := by decide +kernel
theorem dX3_missingIf_12 : decode cX3_missingIf 12 = .ok (.ifCond .eq 10, 3) := by decide +kernel
theorem dX3_missingIf_15 : decode cX3_missingIf 15 = .ok (.aload_n 0, 1) := by decide +kernel
theorem dX3_missingIf_16 : decode cX3_missingIf 16 = .ok (.getfield 18, 3) := by decide +kernel
theorem dX3_missingIf_19 : decode cX3_missingIf 19 = .ok (.iload_n 2, 1) := by decide +kernel
theorem dX3_missingIf_20 : decode cX3_missingIf 20 = .ok (.iload_n 3, 1) := by decide +kernel
theorem dX3_missingIf_21 : decode cX3_missingIf 21 = .ok (.iastore, 1) := by decide +kernel
theorem dX3_missingIf_22 : decode cX3_missingIf 22 = .ok (.aload_n 0, 1) := by decide +kernel
theorem dX3_missingIf_23 : decode cX3_missingIf 23 = .ok (.aload_n 1, 1) := by decide +kernel
theorem dX3_missingIf_24 : decode cX3_missingIf 24 = .ok (.bipush 9, 2) := by decide +kernel
theorem dX3_missingIf_26 : decode cX3_missingIf 26 = .ok (.invokevirtual 70, 3) := by decide +kernel
theorem dX3_missingIf_29 : decode cX3_missingIf 29 = .ok (.aload_n 0, 1) := by decide +kernel
theorem dX3_missingIf_30 : decode cX3_missingIf 30 = .ok (.invokevirtual 74, 3) := by decide +kernel
theorem dX3_missingIf_33 : decode cX3_missingIf 33 = .ok (.ireturn, 1) := by decide +kernel
theorem dX3_leastLift_0 : decode cX3_leastLift 0 = .ok (.iconst 0, 1) := by decide +kernel
theorem dX3_leastLift_1 : decode cX3_leastLift 1 = .ok (.istore_n 2, 1) := by decide +kernel
theorem dX3_leastLift_2 : decode cX3_leastLift 2 = .ok (.iload_n 2, 1) := by decide +kernel
theorem dX3_leastLift_3 : decode cX3_leastLift 3 = .ok (.bipush 9, 2) := by decide +kernel
theorem dX3_leastLift_5 : decode cX3_leastLift 5 = .ok (.if_icmp .ge 38, 3) := by decide +kernel
theorem dX3_leastLift_8 : decode cX3_leastLift 8 = .ok (.aload_n 0, 1) := by decide +kernel
theorem dX3_leastLift_9 : decode cX3_leastLift 9 = .ok (.aload_n 1, 1) := by decide +kernel
theorem dX3_leastLift_10 : decode cX3_leastLift 10 = .ok (.invokevirtual 68, 3) := by decide +kernel
theorem dX3_leastLift_13 : decode cX3_leastLift 13 = .ok (.aload_n 0, 1) := by decide +kernel
theorem dX3_leastLift_14 : decode cX3_leastLift 14 = .ok (.iload_n 2, 1) := by decide +kernel
theorem dX3_leastLift_15 : decode cX3_leastLift 15 = .ok (.putfield 45, 3) := by decide +kernel
theorem dX3_leastLift_18 : decode cX3_leastLift 18 = .ok (.aload_n 0, 1) := by decide +kernel
theorem dX3_leastLift_19 : decode cX3_leastLift 19 = .ok (.aload_n 1, 1) := by decide +kernel
theorem dX3_leastLift_20 : decode cX3_leastLift 20 = .ok (.bipush 9, 2) := by decide +kernel
theorem dX3_leastLift_22 : decode cX3_leastLift 22 = .ok (.invokevirtual 70, 3) := by decide +kernel
theorem dX3_leastLift_25 : decode cX3_leastLift 25 = .ok (.aload_n 0, 1) := by decide +kernel
theorem dX3_leastLift_26 : decode cX3_leastLift 26 = .ok (.getfield 12, 3) := by decide +kernel
theorem dX3_leastLift_29 : decode cX3_leastLift 29 = .ok (.getfield 59, 3) := by decide +kernel
theorem dX3_leastLift_32 : decode cX3_leastLift 32 = .ok (.ifCond .ne 5, 3) := by decide +kernel
theorem dX3_leastLift_35 : decode cX3_leastLift 35 = .ok (.iload_n 2, 1) := by decide +kernel
theorem dX3_leastLift_36 : decode cX3_leastLift 36 = .ok (.ireturn, 1) := by decide +kernel
theorem dX3_leastLift_37 : decode cX3_leastLift 37 = .ok (.iinc 2 1, 3) := by decide +kernel
theorem dX3_leastLift_40 : decode cX3_leastLift 40 = .ok (.goto (-38), 3) := by decide +kernel
theorem dX3_leastLift_43 : decode cX3_leastLift 43 = .ok (.bipush 9, 2) := by decide +kernel
theorem dX3_leastLift_45 : decode cX3_leastLift 45 = .ok (.ireturn, 1) := by decide +kernel
theorem dX3_levyOfDays_0 : decode cX3_levyOfDays 0 = .ok (.iload_n 2, 1) := by decide +kernel
theorem dX3_levyOfDays_1 : decode cX3_levyOfDays 1 = .ok (.i2l, 1) := by decide +kernel
theorem dX3_levyOfDays_2 : decode cX3_levyOfDays 2 = .ok (.lstore 4, 2) := by decide +kernel
theorem dX3_levyOfDays_4 : decode cX3_levyOfDays 4 = .ok (.iconst 0, 1) := by decide +kernel
theorem dX3_levyOfDays_5 : decode cX3_levyOfDays 5 = .ok (.istore 6, 2) := by decide +kernel
theorem dX3_levyOfDays_7 : decode cX3_levyOfDays 7 = .ok (.iconst 0, 1) := by decide +kernel
theorem dX3_levyOfDays_8 : decode cX3_levyOfDays 8 = .ok (.istore 7, 2) := by decide +kernel
theorem dX3_levyOfDays_10 : decode cX3_levyOfDays 10 = .ok (.iload 7, 2) := by decide +kernel
theorem dX3_levyOfDays_12 : decode cX3_levyOfDays 12 = .ok (.iload_n 3, 1) := by decide +kernel
theorem dX3_levyOfDays_13 : decode cX3_levyOfDays 13 = .ok (.if_icmp .ge 100, 3) := by decide +kernel
theorem dX3_levyOfDays_16 : decode cX3_levyOfDays 16 = .ok (.aload_n 0, 1) := by decide +kernel
theorem dX3_levyOfDays_17 : decode cX3_levyOfDays 17 = .ok (.aload_n 1, 1) := by decide +kernel
theorem dX3_levyOfDays_18 : decode cX3_levyOfDays 18 = .ok (.invokevirtual 68, 3) := by decide +kernel
theorem dX3_levyOfDays_21 : decode cX3_levyOfDays 21 = .ok (.iconst 0, 1) := by decide +kernel
theorem dX3_levyOfDays_22 : decode cX3_levyOfDays 22 = .ok (.istore 8, 2) := by decide +kernel
theorem dX3_levyOfDays_24 : decode cX3_levyOfDays 24 = .ok (.iload 8, 2) := by decide +kernel
theorem dX3_levyOfDays_26 : decode cX3_levyOfDays 26 = .ok (.aload_n 1, 1) := by decide +kernel
theorem dX3_levyOfDays_27 : decode cX3_levyOfDays 27 = .ok (.getfield 78, 3) := by decide +kernel
theorem dX3_levyOfDays_30 : decode cX3_levyOfDays 30 = .ok (.if_icmp .ge 58, 3) := by decide +kernel
theorem dX3_levyOfDays_33 : decode cX3_levyOfDays 33 = .ok (.lload 4, 2) := by decide +kernel
theorem dX3_levyOfDays_35 : decode cX3_levyOfDays 35 = .ok (.ldc2_w 92, 3) := by decide +kernel
theorem dX3_levyOfDays_38 : decode cX3_levyOfDays 38 = .ok (.lmul, 1) := by decide +kernel
theorem dX3_levyOfDays_39 : decode cX3_levyOfDays 39 = .ok (.ldc2_w 94, 3) := by decide +kernel
theorem dX3_levyOfDays_42 : decode cX3_levyOfDays 42 = .ok (.ladd, 1) := by decide +kernel
theorem dX3_levyOfDays_43 : decode cX3_levyOfDays 43 = .ok (.ldc2_w 96, 3) := by decide +kernel
theorem dX3_levyOfDays_46 : decode cX3_levyOfDays 46 = .ok (.lrem, 1) := by decide +kernel
theorem dX3_levyOfDays_47 : decode cX3_levyOfDays 47 = .ok (.lstore 4, 2) := by decide +kernel
theorem dX3_levyOfDays_49 : decode cX3_levyOfDays 49 = .ok (.aload_n 1, 1) := by decide +kernel
theorem dX3_levyOfDays_50 : decode cX3_levyOfDays 50 = .ok (.getfield 81, 3) := by decide +kernel
theorem dX3_levyOfDays_53 : decode cX3_levyOfDays 53 = .ok (.iload 8, 2) := by decide +kernel
theorem dX3_levyOfDays_55 : decode cX3_levyOfDays 55 = .ok (.iaload, 1) := by decide +kernel
theorem dX3_levyOfDays_56 : decode cX3_levyOfDays 56 = .ok (.ifCond .le 26, 3) := by decide +kernel
theorem dX3_levyOfDays_59 : decode cX3_levyOfDays 59 = .ok (.aload_n 0, 1) := by decide +kernel
theorem dX3_levyOfDays_60 : decode cX3_levyOfDays 60 = .ok (.getfield 18, 3) := by decide +kernel
theorem dX3_levyOfDays_63 : decode cX3_levyOfDays 63 = .ok (.iload 8, 2) := by decide +kernel
theorem dX3_levyOfDays_65 : decode cX3_levyOfDays 65 = .ok (.lload 4, 2) := by decide +kernel
theorem dX3_levyOfDays_67 : decode cX3_levyOfDays 67 = .ok (.ldc2_w 98, 3) := by decide +kernel
theorem dX3_levyOfDays_70 : decode cX3_levyOfDays 70 = .ok (.ldiv, 1) := by decide +kernel
theorem dX3_levyOfDays_71 : decode cX3_levyOfDays 71 = .ok (.aload_n 1, 1) := by decide +kernel
theorem dX3_levyOfDays_72 : decode cX3_levyOfDays 72 = .ok (.getfield 81, 3) := by decide +kernel
theorem dX3_levyOfDays_75 : decode cX3_levyOfDays 75 = .ok (.iload 8, 2) := by decide +kernel
theorem dX3_levyOfDays_77 : decode cX3_levyOfDays 77 = .ok (.iaload, 1) := by decide +kernel
theorem dX3_levyOfDays_78 : decode cX3_levyOfDays 78 = .ok (.i2l, 1) := by decide +kernel
theorem dX3_levyOfDays_79 : decode cX3_levyOfDays 79 = .ok (.lrem, 1) := by decide +kernel
theorem dX3_levyOfDays_80 : decode cX3_levyOfDays 80 = .ok (.l2i, 1) := by decide +kernel
theorem dX3_levyOfDays_81 : decode cX3_levyOfDays 81 = .ok (.iastore, 1) := by decide +kernel
theorem dX3_levyOfDays_82 : decode cX3_levyOfDays 82 = .ok (.iinc 8 1, 3) := by decide +kernel
theorem dX3_levyOfDays_85 : decode cX3_levyOfDays 85 = .ok (.goto (-61), 3) := by decide +kernel
theorem dX3_levyOfDays_88 : decode cX3_levyOfDays 88 = .ok (.aload_n 0, 1) := by decide +kernel
theorem dX3_levyOfDays_89 : decode cX3_levyOfDays 89 = .ok (.aload_n 1, 1) := by decide +kernel
theorem dX3_levyOfDays_90 : decode cX3_levyOfDays 90 = .ok (.bipush 9, 2) := by decide +kernel
theorem dX3_levyOfDays_92 : decode cX3_levyOfDays 92 = .ok (.invokevirtual 70, 3) := by decide +kernel
theorem dX3_levyOfDays_95 : decode cX3_levyOfDays 95 = .ok (.iload 6, 2) := by decide +kernel
theorem dX3_levyOfDays_97 : decode cX3_levyOfDays 97 = .ok (.aload_n 0, 1) := by decide +kernel
theorem dX3_levyOfDays_98 : decode cX3_levyOfDays 98 = .ok (.getfield 12, 3) := by decide +kernel
theorem dX3_levyOfDays_101 : decode cX3_levyOfDays 101 = .ok (.getfield 100, 3) := by decide +kernel
theorem dX3_levyOfDays_104 : decode cX3_levyOfDays 104 = .ok (.iadd, 1) := by decide +kernel
theorem dX3_levyOfDays_105 : decode cX3_levyOfDays 105 = .ok (.istore 6, 2) := by decide +kernel
theorem dX3_levyOfDays_107 : decode cX3_levyOfDays 107 = .ok (.iinc 7 1, 3) := by decide +kernel
theorem dX3_levyOfDays_110 : decode cX3_levyOfDays 110 = .ok (.goto (-100), 3) := by decide +kernel
theorem dX3_levyOfDays_113 : decode cX3_levyOfDays 113 = .ok (.iload 6, 2) := by decide +kernel
theorem dX3_levyOfDays_115 : decode cX3_levyOfDays 115 = .ok (.ireturn, 1) := by decide +kernel
theorem dX4_init_0 : decode cX4_init 0 = .ok (.aload_n 0, 1) := by decide +kernel
theorem dX4_init_1 : decode cX4_init 1 = .ok (.invokespecial 3, 3) := by decide +kernel
theorem dX4_init_4 : decode cX4_init 4 = .ok (.aload_n 0, 1) := by decide +kernel
theorem dX4_init_5 : decode cX4_init 5 = .ok (.sipush 150, 3) := by decide +kernel
theorem dX4_init_8 : decode cX4_init 8 = .ok (.newarray .int, 2) := by decide +kernel
theorem dX4_init_10 : decode cX4_init 10 = .ok (.putfield 9, 3) := by decide +kernel
theorem dX4_init_13 : decode cX4_init 13 = .ok (.aload_n 0, 1) := by decide +kernel
theorem dX4_init_14 : decode cX4_init 14 = .ok (.new 15, 3) := by decide +kernel
theorem dX4_init_17 : decode cX4_init 17 = .ok (.dup, 1) := by decide +kernel
theorem dX4_init_18 : decode cX4_init 18 = .ok (.invokespecial 17, 3) := by decide +kernel
theorem dX4_init_21 : decode cX4_init 21 = .ok (.putfield 18, 3) := by decide +kernel
theorem dX4_init_24 : decode cX4_init 24 = .ok (.return_, 1) := by decide +kernel
theorem dX4_addByte_0 : decode cX4_addByte 0 = .ok (.aload_n 0, 1) := by decide +kernel
theorem dX4_addByte_1 : decode cX4_addByte 1 = .ok (.getfield 22, 3) := by decide +kernel
theorem dX4_addByte_4 : decode cX4_addByte 4 = .ok (.sipush 150, 3) := by decide +kernel
theorem dX4_addByte_7 : decode cX4_addByte 7 = .ok (.if_icmp .lt 4, 3) := by decide +kernel
theorem dX4_addByte_10 : decode cX4_addByte 10 = .ok (.return_, 1) := by decide +kernel
theorem dX4_addByte_11 : decode cX4_addByte 11 = .ok (.aload_n 0, 1) := by decide +kernel
theorem dX4_addByte_12 : decode cX4_addByte 12 = .ok (.getfield 9, 3) := by decide +kernel
theorem dX4_addByte_15 : decode cX4_addByte 15 = .ok (.aload_n 0, 1) := by decide +kernel
theorem dX4_addByte_16 : decode cX4_addByte 16 = .ok (.getfield 22, 3) := by decide +kernel
theorem dX4_addByte_19 : decode cX4_addByte 19 = .ok (.iload_n 1, 1) := by decide +kernel
theorem dX4_addByte_20 : decode cX4_addByte 20 = .ok (.iastore, 1) := by decide +kernel
theorem dX4_addByte_21 : decode cX4_addByte 21 = .ok (.aload_n 0, 1) := by decide +kernel
theorem dX4_addByte_22 : decode cX4_addByte 22 = .ok (.dup, 1) := by decide +kernel
theorem dX4_addByte_23 : decode cX4_addByte 23 = .ok (.getfield 22, 3) := by decide +kernel
theorem dX4_addByte_26 : decode cX4_addByte 26 = .ok (.iconst 1, 1) := by decide +kernel
theorem dX4_addByte_27 : decode cX4_addByte 27 = .ok (.iadd, 1) := by decide +kernel
theorem dX4_addByte_28 : decode cX4_addByte 28 = .ok (.putfield 22, 3) := by decide +kernel
theorem dX4_addByte_31 : decode cX4_addByte 31 = .ok (.return_, 1) := by decide +kernel
theorem dX4_readBus_0 : decode cX4_readBus 0 = .ok (.aload_n 0, 1) := by decide +kernel
theorem dX4_readBus_1 : decode cX4_readBus 1 = .ok (.getfield 18, 3) := by decide +kernel
theorem dX4_readBus_4 : decode cX4_readBus 4 = .ok (.invokevirtual 26, 3) := by decide +kernel
theorem dX4_readBus_7 : decode cX4_readBus 7 = .ok (.aload_n 0, 1) := by decide +kernel
theorem dX4_readBus_8 : decode cX4_readBus 8 = .ok (.iconst 0, 1) := by decide +kernel
theorem dX4_readBus_9 : decode cX4_readBus 9 = .ok (.putfield 29, 3) := by decide +kernel
theorem dX4_readBus_12 : decode cX4_readBus 12 = .ok (.aload_n 0, 1) := by decide +kernel
theorem dX4_readBus_13 : decode cX4_readBus 13 = .ok (.invokevirtual 32, 3) := by decide +kernel
theorem dX4_readBus_16 : decode cX4_readBus 16 = .ok (.aload_n 0, 1) := by decide +kernel
theorem dX4_readBus_17 : decode cX4_readBus 17 = .ok (.ldc 35, 2) := by decide +kernel
theorem dX4_readBus_19 : decode cX4_readBus 19 = .ok (.invokevirtual 37, 3) := by decide +kernel
theorem dX4_readBus_22 : decode cX4_readBus 22 = .ok (.ifCond .eq 10, 3) := by decide +kernel
theorem dX4_readBus_25 : decode cX4_readBus 25 = .ok (.aload_n 0, 1) := by decide +kernel
theorem dX4_readBus_26 : decode cX4_readBus 26 = .ok (.invokevirtual 41, 3) := by decide +kernel
theorem dX4_readBus_29 : decode cX4_readBus 29 = .ok (.ifCond .ne 5, 3) := by decide +kernel
theorem dX4_readBus_32 : decode cX4_readBus 32 = .ok (.iconst 0, 1) := by decide +kernel
theorem dX4_readBus_33 : decode cX4_readBus 33 = .ok (.ireturn, 1) := by decide +kernel
theorem dX4_readBus_34 : decode cX4_readBus 34 = .ok (.aload_n 0, 1) := by decide +kernel
theorem dX4_readBus_35 : decode cX4_readBus 35 = .ok (.iconst 1, 1) := by decide +kernel
theorem dX4_readBus_36 : decode cX4_readBus 36 = .ok (.putfield 45, 3) := by decide +kernel
theorem dX4_readBus_39 : decode cX4_readBus 39 = .ok (.iconst 0, 1) := by decide +kernel
theorem dX4_readBus_40 : decode cX4_readBus 40 = .ok (.istore_n 1, 1) := by decide +kernel
theorem dX4_readBus_41 : decode cX4_readBus 41 = .ok (.iload_n 1, 1) := by decide +kernel
theorem dX4_readBus_42 : decode cX4_readBus 42 = .ok (.sipush 150, 3) := by decide +kernel
theorem dX4_readBus_45 : decode cX4_readBus 45 = .ok (.if_icmp .ge 41, 3) := by decide +kernel
theorem dX4_readBus_48 : decode cX4_readBus 48 = .ok (.aload_n 0, 1) := by decide +kernel
theorem dX4_readBus_49 : decode cX4_readBus 49 = .ok (.invokevirtual 32, 3) := by decide +kernel
theorem dX4_readBus_52 : decode cX4_readBus 52 = .ok (.aload_n 0, 1) := by decide +kernel
theorem dX4_readBus_53 : decode cX4_readBus 53 = .ok (.getfield 48, 3) := by decide +kernel
theorem dX4_readBus_56 : decode cX4_readBus 56 = .ok (.ifCond .ne 5, 3) := by decide +kernel
theorem dX4_readBus_59 : decode cX4_readBus 59 = .ok (.iconst 1, 1) := by decide +kernel
theorem dX4_readBus_60 : decode cX4_readBus 60 = .ok (.ireturn, 1) := by decide +kernel
theorem dX4_readBus_61 : decode cX4_readBus 61 = .ok (.aload_n 0, 1) := by decide +kernel
theorem dX4_readBus_62 : decode cX4_readBus 62 = .ok (.invokevirtual 51, 3) := by decide +kernel
theorem dX4_readBus_65 : decode cX4_readBus 65 = .ok (.ifCond .ne 5, 3) := by decide +kernel
theorem dX4_readBus_68 : decode cX4_readBus 68 = .ok (.iconst 0, 1) := by decide +kernel
theorem dX4_readBus_69 : decode cX4_readBus 69 = .ok (.ireturn, 1) := by decide +kernel
theorem dX4_readBus_70 : decode cX4_readBus 70 = .ok (.aload_n 0, 1) := by decide +kernel
theorem dX4_readBus_71 : decode cX4_readBus 71 = .ok (.dup, 1) := by decide +kernel
theorem dX4_readBus_72 : decode cX4_readBus 72 = .ok (.getfield 45, 3) := by decide +kernel
theorem dX4_readBus_75 : decode cX4_readBus 75 = .ok (.iconst 1, 1) := by decide +kernel
theorem dX4_readBus_76 : decode cX4_readBus 76 = .ok (.iadd, 1) := by decide +kernel
theorem dX4_readBus_77 : decode cX4_readBus 77 = .ok (.putfield 45, 3) := by decide +kernel
theorem dX4_readBus_80 : decode cX4_readBus 80 = .ok (.iinc 1 1, 3) := by decide +kernel
theorem dX4_readBus_83 : decode cX4_readBus 83 = .ok (.goto (-42), 3) := by decide +kernel
theorem dX4_readBus_86 : decode cX4_readBus 86 = .ok (.iconst 1, 1) := by decide +kernel
theorem dX4_readBus_87 : decode cX4_readBus 87 = .ok (.ireturn, 1) := by decide +kernel
theorem dX4_readItem_0 : decode cX4_readItem 0 = .ok (.aload_n 0, 1) := by decide +kernel
theorem dX4_readItem_1 : decode cX4_readItem 1 = .ok (.ldc 54, 2) := by decide +kernel
theorem dX4_readItem_3 : decode cX4_readItem 3 = .ok (.invokevirtual 37, 3) := by decide +kernel
theorem dX4_readItem_6 : decode cX4_readItem 6 = .ok (.ifCond .eq 8, 3) := by decide +kernel
theorem dX4_readItem_9 : decode cX4_readItem 9 = .ok (.aload_n 0, 1) := by decide +kernel
theorem dX4_readItem_10 : decode cX4_readItem 10 = .ok (.invokevirtual 56, 3) := by decide +kernel
theorem dX4_readItem_13 : decode cX4_readItem 13 = .ok (.ireturn, 1) := by decide +kernel
theorem dX4_readItem_14 : decode cX4_readItem 14 = .ok (.aload_n 0, 1) := by decide +kernel
theorem dX4_readItem_15 : decode cX4_readItem 15 = .ok (.ldc 59, 2) := by decide +kernel
theorem dX4_readItem_17 : decode cX4_readItem 17 = .ok (.invokevirtual 37, 3) := by decide +kernel
theorem dX4_readItem_20 : decode cX4_readItem 20 = .ok (.ifCond .eq 8, 3) := by decide +kernel
theorem dX4_readItem_23 : decode cX4_readItem 23 = .ok (.aload_n 0, 1) := by decide +kernel
theorem dX4_readItem_24 : decode cX4_readItem 24 = .ok (.invokevirtual 61, 3) := by decide +kernel
theorem dX4_readItem_27 : decode cX4_readItem 27 = .ok (.ireturn, 1) := by decide +kernel
theorem dX4_readItem_28 : decode cX4_readItem 28 = .ok (.aload_n 0, 1) := by decide +kernel
theorem dX4_readItem_29 : decode cX4_readItem 29 = .ok (.ldc 64, 2) := by decide +kernel
theorem dX4_readItem_31 : decode cX4_readItem 31 = .ok (.invokevirtual 37, 3) := by decide +kernel
theorem dX4_readItem_34 : decode cX4_readItem 34 = .ok (.ifCond .eq 8, 3) := by decide +kernel
theorem dX4_readItem_37 : decode cX4_readItem 37 = .ok (.aload_n 0, 1) := by decide +kernel
theorem dX4_readItem_38 : decode cX4_readItem 38 = .ok (.invokevirtual 66, 3) := by decide +kernel
theorem dX4_readItem_41 : decode cX4_readItem 41 = .ok (.ireturn, 1) := by decide +kernel
theorem dX4_readItem_42 : decode cX4_readItem 42 = .ok (.iconst 0, 1) := by decide +kernel
theorem dX4_readItem_43 : decode cX4_readItem 43 = .ok (.ireturn, 1) := by decide +kernel
theorem dX4_readRoom_0 : decode cX4_readRoom 0 = .ok (.aload_n 0, 1) := by decide +kernel
theorem dX4_readRoom_1 : decode cX4_readRoom 1 = .ok (.iconst 1, 1) := by decide +kernel
theorem dX4_readRoom_2 : decode cX4_readRoom 2 = .ok (.bipush 7, 2) := by decide +kernel
theorem dX4_readRoom_4 : decode cX4_readRoom 4 = .ok (.invokevirtual 69, 3) := by decide +kernel
theorem dX4_readRoom_7 : decode cX4_readRoom 7 = .ok (.ifCond .ne 5, 3) := by decide +kernel
theorem dX4_readRoom_10 : decode cX4_readRoom 10 = .ok (.iconst 0, 1) := by decide +kernel
theorem dX4_readRoom_11 : decode cX4_readRoom 11 = .ok (.ireturn, 1) := by decide +kernel
theorem dX4_readRoom_12 : decode cX4_readRoom 12 = .ok (.aload_n 0, 1) := by decide +kernel
theorem dX4_readRoom_13 : decode cX4_readRoom 13 = .ok (.getfield 18, 3) := by decide +kernel
theorem dX4_readRoom_16 : decode cX4_readRoom 16 = .ok (.aload_n 0, 1) := by decide +kernel
theorem dX4_readRoom_17 : decode cX4_readRoom 17 = .ok (.getfield 73, 3) := by decide +kernel
theorem dX4_readRoom_20 : decode cX4_readRoom 20 = .ok (.putfield 76, 3) := by decide +kernel
theorem dX4_readRoom_23 : decode cX4_readRoom 23 = .ok (.aload_n 0, 1) := by decide +kernel
theorem dX4_readRoom_24 : decode cX4_readRoom 24 = .ok (.invokevirtual 79, 3) := by decide +kernel
theorem dX4_readRoom_27 : decode cX4_readRoom 27 = .ok (.ireturn, 1) := by decide +kernel
theorem dX4_readBridge_0 : decode cX4_readBridge 0 = .ok (.aload_n 0, 1) := by decide +kernel
theorem dX4_readBridge_1 : decode cX4_readBridge 1 = .ok (.iconst 0, 1) := by decide +kernel
theorem dX4_readBridge_2 : decode cX4_readBridge 2 = .ok (.bipush 9, 2) := by decide +kernel
theorem dX4_readBridge_4 : decode cX4_readBridge 4 = .ok (.invokevirtual 69, 3) := by decide +kernel
theorem dX4_readBridge_7 : decode cX4_readBridge 7 = .ok (.ifCond .ne 5, 3) := by decide +kernel
theorem dX4_readBridge_10 : decode cX4_readBridge 10 = .ok (.iconst 0, 1) := by decide +kernel
theorem dX4_readBridge_11 : decode cX4_readBridge 11 = .ok (.ireturn, 1) := by decide +kernel
theorem dX4_readBridge_12 : decode cX4_readBridge 12 = .ok (.aload_n 0, 1) := by decide +kernel
theorem dX4_readBridge_13 : decode cX4_readBridge 13 = .ok (.getfield 73, 3) := by decide +kernel
theorem dX4_readBridge_16 : decode cX4_readBridge 16 = .ok (.istore_n 1, 1) := by decide +kernel
theorem dX4_readBridge_17 : decode cX4_readBridge 17 = .ok (.aload_n 0, 1) := by decide +kernel
theorem dX4_readBridge_18 : decode cX4_readBridge 18 = .ok (.iconst 1, 1) := by decide +kernel
theorem dX4_readBridge_19 : decode cX4_readBridge 19 = .ok (.bipush 9, 2) := by decide +kernel
theorem dX4_readBridge_21 : decode cX4_readBridge 21 = .ok (.invokevirtual 69, 3) := by decide +kernel
theorem dX4_readBridge_24 : decode cX4_readBridge 24 = .ok (.ifCond .ne 5, 3) := by decide +kernel
theorem dX4_readBridge_27 : decode cX4_readBridge 27 = .ok (.iconst 0, 1) := by decide +kernel
theorem dX4_readBridge_28 : decode cX4_readBridge 28 = .ok (.ireturn, 1) := by decide +kernel
theorem dX4_readBridge_29 : decode cX4_readBridge 29 = .ok (.iload_n 1, 1) := by decide +kernel
theorem dX4_readBridge_30 : decode cX4_readBridge 30 = .ok (.iconst 0, 1) := by decide +kernel
theorem dX4_readBridge_31 : decode cX4_readBridge 31 = .ok (.bipush 9, 2) := by decide +kernel
theorem dX4_readBridge_33 : decode cX4_readBridge 33 = .ok (.invokestatic 82, 3) := by decide +kernel
theorem dX4_readBridge_36 : decode cX4_readBridge 36 = .ok (.ifCond .eq 16, 3) := by decide +kernel
theorem dX4_readBridge_39 : decode cX4_readBridge 39 = .ok (.aload_n 0, 1) := by decide +kernel
theorem dX4_readBridge_40 : decode cX4_readBridge 40 = .ok (.getfield 18, 3) := by decide +kernel
theorem dX4_readBridge_43 : decode cX4_readBridge 43 = .ok (.getfield 86, 3) := by decide +kernel
theorem dX4_readBridge_46 : decode cX4_readBridge 46 = .ok (.iload_n 1, 1) := by decide +kernel
theorem dX4_readBridge_47 : decode cX4_readBridge 47 = .ok (.aload_n 0, 1) := by decide +kernel
theorem dX4_readBridge_48 : decode cX4_readBridge 48 = .ok (.getfield 73, 3) := by decide +kernel
theorem dX4_readBridge_51 : decode cX4_readBridge 51 = .ok (.iastore, 1) := by decide +kernel
theorem dX4_readBridge_52 : decode cX4_readBridge 52 = .ok (.aload_n 0, 1) := by decide +kernel
theorem dX4_readBridge_53 : decode cX4_readBridge 53 = .ok (.invokevirtual 79, 3) := by decide +kernel
theorem dX4_readBridge_56 : decode cX4_readBridge 56 = .ok (.ireturn, 1) := by decide +kernel
theorem dX4_readIdea_0 : decode cX4_readIdea 0 = .ok (.aload_n 0, 1) := by decide +kernel
theorem dX4_readIdea_1 : decode cX4_readIdea 1 = .ok (.getfield 18, 3) := by decide +kernel
theorem dX4_readIdea_4 : decode cX4_readIdea 4 = .ok (.getfield 89, 3) := by decide +kernel
theorem dX4_readIdea_7 : decode cX4_readIdea 7 = .ok (.bipush 7, 2) := by decide +kernel
theorem dX4_readIdea_9 : decode cX4_readIdea 9 = .ok (.if_icmp .lt 5, 3) := by decide +kernel
theorem dX4_readIdea_12 : decode cX4_readIdea 12 = .ok (.iconst 0, 1) := by decide +kernel
theorem dX4_readIdea_13 : decode cX4_readIdea 13 = .ok (.ireturn, 1) := by decide +kernel
theorem dX4_readIdea_14 : decode cX4_readIdea 14 = .ok (.aload_n 0, 1) := by decide +kernel
theorem dX4_readIdea_15 : decode cX4_readIdea 15 = .ok (.iconst 0, 1) := by decide +kernel
theorem dX4_readIdea_16 : decode cX4_readIdea 16 = .ok (.iconst 5, 1) := by decide +kernel
theorem dX4_readIdea_17 : decode cX4_readIdea 17 = .ok (.invokevirtual 69, 3) := by decide +kernel
theorem dX4_readIdea_20 : decode cX4_readIdea 20 = .ok (.ifCond .ne 5, 3) := by decide +kernel
theorem dX4_readIdea_23 : decode cX4_readIdea 23 = .ok (.iconst 0, 1) := by decide +kernel
theorem dX4_readIdea_24 : decode cX4_readIdea 24 = .ok (.ireturn, 1) := by decide +kernel
theorem dX4_readIdea_25 : decode cX4_readIdea 25 = .ok (.aload_n 0, 1) := by decide +kernel
theorem dX4_readIdea_26 : decode cX4_readIdea 26 = .ok (.getfield 73, 3) := by decide +kernel
theorem dX4_readIdea_29 : decode cX4_readIdea 29 = .ok (.istore_n 1, 1) := by decide +kernel
theorem dX4_readIdea_30 : decode cX4_readIdea 30 = .ok (.aload_n 0, 1) := by decide +kernel
theorem dX4_readIdea_31 : decode cX4_readIdea 31 = .ok (.iconst 1, 1) := by decide +kernel
theorem dX4_readIdea_32 : decode cX4_readIdea 32 = .ok (.bipush 9, 2) := by decide +kernel
theorem dX4_readIdea_34 : decode cX4_readIdea 34 = .ok (.invokevirtual 69, 3) := by decide +kernel
theorem dX4_readIdea_37 : decode cX4_readIdea 37 = .ok (.ifCond .ne 5, 3) := by decide +kernel
theorem dX4_readIdea_40 : decode cX4_readIdea 40 = .ok (.iconst 0, 1) := by decide +kernel
theorem dX4_readIdea_41 : decode cX4_readIdea 41 = .ok (.ireturn, 1) := by decide +kernel
theorem dX4_readIdea_42 : decode cX4_readIdea 42 = .ok (.aload_n 0, 1) := by decide +kernel
theorem dX4_readIdea_43 : decode cX4_readIdea 43 = .ok (.getfield 73, 3) := by decide +kernel
theorem dX4_readIdea_46 : decode cX4_readIdea 46 = .ok (.istore_n 2, 1) := by decide +kernel
theorem dX4_readIdea_47 : decode cX4_readIdea 47 = .ok (.aload_n 0, 1) := by decide +kernel
theorem dX4_readIdea_48 : decode cX4_readIdea 48 = .ok (.iconst 0, 1) := by decide +kernel
theorem dX4_readIdea_49 : decode cX4_readIdea 49 = .ok (.bipush 8, 2) := by decide +kernel
theorem dX4_readIdea_51 : decode cX4_readIdea 51 = .ok (.invokevirtual 69, 3) := by decide +kernel
theorem dX4_readIdea_54 : decode cX4_readIdea 54 = .ok (.ifCond .ne 5, 3) := by decide +kernel
theorem dX4_readIdea_57 : decode cX4_readIdea 57 = .ok (.iconst 0, 1) := by decide +kernel
theorem dX4_readIdea_58 : decode cX4_readIdea 58 = .ok (.ireturn, 1) := by decide +kernel
theorem dX4_readIdea_59 : decode cX4_readIdea 59 = .ok (.aload_n 0, 1) := by decide +kernel
theorem dX4_readIdea_60 : decode cX4_readIdea 60 = .ok (.getfield 73, 3) := by decide +kernel
theorem dX4_readIdea_63 : decode cX4_readIdea 63 = .ok (.istore_n 3, 1) := by decide +kernel
theorem dX4_readIdea_64 : decode cX4_readIdea 64 = .ok (.aload_n 0, 1) := by decide +kernel
theorem dX4_readIdea_65 : decode cX4_readIdea 65 = .ok (.iload_n 3, 1) := by decide +kernel
theorem dX4_readIdea_66 : decode cX4_readIdea 66 = .ok (.iconst 1, 1) := by decide +kernel
theorem dX4_readIdea_67 : decode cX4_readIdea 67 = .ok (.iadd, 1) := by decide +kernel
theorem dX4_readIdea_68 : decode cX4_readIdea 68 = .ok (.bipush 9, 2) := by decide +kernel
theorem dX4_readIdea_70 : decode cX4_readIdea 70 = .ok (.invokevirtual 69, 3) := by decide +kernel
theorem dX4_readIdea_73 : decode cX4_readIdea 73 = .ok (.ifCond .ne 5, 3) := by decide +kernel
theorem dX4_readIdea_76 : decode cX4_readIdea 76 = .ok (.iconst 0, 1) := by decide +kernel
theorem dX4_readIdea_77 : decode cX4_readIdea 77 = .ok (.ireturn, 1) := by decide +kernel
theorem dX4_readIdea_78 : decode cX4_readIdea 78 = .ok (.aload_n 0, 1) := by decide +kernel
theorem dX4_readIdea_79 : decode cX4_readIdea 79 = .ok (.getfield 18, 3) := by decide +kernel
theorem dX4_readIdea_82 : decode cX4_readIdea 82 = .ok (.iload_n 1, 1) := by decide +kernel
theorem dX4_readIdea_83 : decode cX4_readIdea 83 = .ok (.iload_n 2, 1) := by decide +kernel
theorem dX4_readIdea_84 : decode cX4_readIdea 84 = .ok (.iload_n 3, 1) := by decide +kernel
theorem dX4_readIdea_85 : decode cX4_readIdea 85 = .ok (.aload_n 0, 1) := by decide +kernel
theorem dX4_readIdea_86 : decode cX4_readIdea 86 = .ok (.getfield 73, 3) := by decide +kernel
theorem dX4_readIdea_89 : decode cX4_readIdea 89 = .ok (.invokevirtual 92, 3) := by decide +kernel
theorem dX4_readIdea_92 : decode cX4_readIdea 92 = .ok (.aload_n 0, 1) := by decide +kernel
theorem dX4_readIdea_93 : decode cX4_readIdea 93 = .ok (.invokevirtual 79, 3) := by decide +kernel
theorem dX4_readIdea_96 : decode cX4_readIdea 96 = .ok (.ireturn, 1) := by decide +kernel
theorem dX4_readQuarrel_0 : decode cX4_readQuarrel 0 = .ok (.aload_n 0, 1) := by decide +kernel
theorem dX4_readQuarrel_1 : decode cX4_readQuarrel 1 = .ok (.iconst 0, 1) := by decide +kernel
theorem dX4_readQuarrel_2 : decode cX4_readQuarrel 2 = .ok (.aload_n 0, 1) := by decide +kernel
theorem dX4_readQuarrel_3 : decode cX4_readQuarrel 3 = .ok (.getfield 18, 3) := by decide +kernel
theorem dX4_readQuarrel_6 : decode cX4_readQuarrel 6 = .ok (.getfield 89, 3) := by decide +kernel
theorem dX4_readQuarrel_9 : decode cX4_readQuarrel 9 = .ok (.iconst 1, 1) := by decide +kernel
theorem dX4_readQuarrel_10 : decode cX4_readQuarrel 10 = .ok (.isub, 1) := by decide +kernel
theorem dX4_readQuarrel_11 : decode cX4_readQuarrel 11 = .ok (.invokevirtual 69, 3) := by decide +kernel
theorem dX4_readQuarrel_14 : decode cX4_readQuarrel 14 = .ok (.ifCond .ne 5, 3) := by decide +kernel
theorem dX4_readQuarrel_17 : decode cX4_readQuarrel 17 = .ok (.iconst 0, 1) := by decide +kernel
theorem dX4_readQuarrel_18 : decode cX4_readQuarrel 18 = .ok (.ireturn, 1) := by decide +kernel
theorem dX4_readQuarrel_19 : decode cX4_readQuarrel 19 = .ok (.aload_n 0, 1) := by decide +kernel
theorem dX4_readQuarrel_20 : decode cX4_readQuarrel 20 = .ok (.getfield 73, 3) := by decide +kernel
theorem dX4_readQuarrel_23 : decode cX4_readQuarrel 23 = .ok (.istore_n 1, 1) := by decide +kernel
theorem dX4_readQuarrel_24 : decode cX4_readQuarrel 24 = .ok (.aload_n 0, 1) := by decide +kernel
theorem dX4_readQuarrel_25 : decode cX4_readQuarrel 25 = .ok (.iconst 0, 1) := by decide +kernel
theorem dX4_readQuarrel_26 : decode cX4_readQuarrel 26 = .ok (.aload_n 0, 1) := by decide +kernel
theorem dX4_readQuarrel_27 : decode cX4_readQuarrel 27 = .ok (.getfield 18, 3) := by decide +kernel
theorem dX4_readQuarrel_30 : decode cX4_readQuarrel 30 = .ok (.getfield 89, 3) := by decide +kernel
theorem dX4_readQuarrel_33 : decode cX4_readQuarrel 33 = .ok (.iconst 1, 1) := by decide +kernel
theorem dX4_readQuarrel_34 : decode cX4_readQuarrel 34 = .ok (.isub, 1) := by decide +kernel
theorem dX4_readQuarrel_35 : decode cX4_readQuarrel 35 = .ok (.invokevirtual 69, 3) := by decide +kernel
theorem dX4_readQuarrel_38 : decode cX4_readQuarrel 38 = .ok (.ifCond .eq 11, 3) := by decide +kernel
theorem dX4_readQuarrel_41 : decode cX4_readQuarrel 41 = .ok (.aload_n 0, 1) := by decide +kernel
theorem dX4_readQuarrel_42 : decode cX4_readQuarrel 42 = .ok (.getfield 73, 3) := by decide +kernel
theorem dX4_readQuarrel_45 : decode cX4_readQuarrel 45 = .ok (.iload_n 1, 1) := by decide +kernel
theorem dX4_readQuarrel_46 : decode cX4_readQuarrel 46 = .ok (.if_icmp .ne 5, 3) := by decide +kernel
theorem dX4_readQuarrel_49 : decode cX4_readQuarrel 49 = .ok (.iconst 0, 1) := by decide +kernel
theorem dX4_readQuarrel_50 : decode cX4_readQuarrel 50 = .ok (.ireturn, 1) := by decide +kernel
theorem dX4_readQuarrel_51 : decode cX4_readQuarrel 51 = .ok (.aload_n 0, 1) := by decide +kernel
theorem dX4_readQuarrel_52 : decode cX4_readQuarrel 52 = .ok (.getfield 18, 3) := by decide +kernel
theorem dX4_readQuarrel_55 : decode cX4_readQuarrel 55 = .ok (.iload_n 1, 1) := by decide +kernel
theorem dX4_readQuarrel_56 : decode cX4_readQuarrel 56 = .ok (.aload_n 0, 1) := by decide +kernel
theorem dX4_readQuarrel_57 : decode cX4_readQuarrel 57 = .ok (.getfield 73, 3) := by decide +kernel
theorem dX4_readQuarrel_60 : decode cX4_readQuarrel 60 = .ok (.iconst 1, 1) := by decide +kernel
theorem dX4_readQuarrel_61 : decode cX4_readQuarrel 61 = .ok (.invokevirtual 96, 3) := by decide +kernel
theorem dX4_readQuarrel_64 : decode cX4_readQuarrel 64 = .ok (.aload_n 0, 1) := by decide +kernel
theorem dX4_readQuarrel_65 : decode cX4_readQuarrel 65 = .ok (.invokevirtual 79, 3) := by decide +kernel
theorem dX4_readQuarrel_68 : decode cX4_readQuarrel 68 = .ok (.ireturn, 1) := by decide +kernel
theorem dX4_readNumber_0 : decode cX4_readNumber 0 = .ok (.aload_n 0, 1) := by decide +kernel
theorem dX4_readNumber_1 : decode cX4_readNumber 1 = .ok (.invokevirtual 32, 3) := by decide +kernel
theorem dX4_readNumber_4 : decode cX4_readNumber 4 = .ok (.aload_n 0, 1) := by decide +kernel
theorem dX4_readNumber_5 : decode cX4_readNumber 5 = .ok (.getfield 48, 3) := by decide +kernel
theorem dX4_readNumber_8 : decode cX4_readNumber 8 = .ok (.iconst 2, 1) := by decide +kernel
theorem dX4_readNumber_9 : decode cX4_readNumber 9 = .ok (.if_icmp .eq 5, 3) := by decide +kernel
theorem dX4_readNumber_12 : decode cX4_readNumber 12 = .ok (.iconst 0, 1) := by decide +kernel
theorem dX4_readNumber_13 : decode cX4_readNumber 13 = .ok (.ireturn, 1) := by decide +kernel
theorem dX4_readNumber_14 : decode cX4_readNumber 14 = .ok (.aload_n 0, 1) := by decide +kernel
theorem dX4_readNumber_15 : decode cX4_readNumber 15 = .ok (.aload_n 0, 1) := by decide +kernel
theorem dX4_readNumber_16 : decode cX4_readNumber 16 = .ok (.invokevirtual 100, 3) := by decide +kernel
theorem dX4_readNumber_19 : decode cX4_readNumber 19 = .ok (.putfield 73, 3) := by decide +kernel
theorem dX4_readNumber_22 : decode cX4_readNumber 22 = .ok (.aload_n 0, 1) := by decide +kernel
theorem dX4_readNumber_23 : decode cX4_readNumber 23 = .ok (.getfield 73, 3) := by decide +kernel
theorem dX4_readNumber_26 : decode cX4_readNumber 26 = .ok (.iload_n 1, 1) := by decide +kernel
theorem dX4_readNumber_27 : decode cX4_readNumber 27 = .ok (.iload_n 2, 1) := by decide +kernel
theorem dX4_readNumber_28 : decode cX4_readNumber 28 = .ok (.invokestatic 82, 3) := by decide +kernel
theorem dX4_readNumber_31 : decode cX4_readNumber 31 = .ok (.ireturn, 1) := by decide +kernel
theorem dX4_readMark_0 : decode cX4_readMark 0 = .ok (.aload_n 0, 1) := by decide +kernel
theorem dX4_readMark_1 : decode cX4_readMark 1 = .ok (.invokevirtual 32, 3) := by decide +kernel
theorem dX4_readMark_4 : decode cX4_readMark 4 = .ok (.aload_n 0, 1) := by decide +kernel
theorem dX4_readMark_5 : decode cX4_readMark 5 = .ok (.getfield 48, 3) := by decide +kernel
theorem dX4_readMark_8 : decode cX4_readMark 8 = .ok (.iconst 3, 1) := by decide +kernel
theorem dX4_readMark_9 : decode cX4_readMark 9 = .ok (.if_icmp .ne 7, 3) := by decide +kernel
theorem dX4_readMark_12 : decode cX4_readMark 12 = .ok (.iconst 1, 1) := by decide +kernel
theorem dX4_readMark_13 : decode cX4_readMark 13 = .ok (.goto 4, 3) := by decide +kernel
theorem dX4_readMark_16 : decode cX4_readMark 16 = .ok (.iconst 0, 1) := by decide +kernel
theorem dX4_readMark_17 : decode cX4_readMark 17 = .ok (.ireturn, 1) := by decide +kernel
theorem dX4_isWord_0 : decode cX4_isWord 0 = .ok (.aload_n 0, 1) := by decide +kernel
theorem dX4_isWord_1 : decode cX4_isWord 1 = .ok (.getfield 48, 3) := by decide +kernel
theorem dX4_isWord_4 : decode cX4_isWord 4 = .ok (.iconst 1, 1) := by decide +kernel
theorem dX4_isWord_5 : decode cX4_isWord 5 = .ok (.if_icmp .ne 19, 3) := by decide +kernel
theorem dX4_isWord_8 : decode cX4_isWord 8 = .ok (.aload_n 0, 1) := by decide +kernel
theorem dX4_isWord_9 : decode cX4_isWord 9 = .ok (.getfield 29, 3) := by decide +kernel
theorem dX4_isWord_12 : decode cX4_isWord 12 = .ok (.aload_n 0, 1) := by decide +kernel
theorem dX4_isWord_13 : decode cX4_isWord 13 = .ok (.getfield 104, 3) := by decide +kernel
theorem dX4_isWord_16 : decode cX4_isWord 16 = .ok (.isub, 1) := by decide +kernel
theorem dX4_isWord_17 : decode cX4_isWord 17 = .ok (.aload_n 1, 1) := by decide +kernel
theorem dX4_isWord_18 : decode cX4_isWord 18 = .ok (.invokevirtual 107, 3) := by decide +kernel
theorem dX4_isWord_21 : decode cX4_isWord 21 = .ok (.if_icmp .eq 5, 3) := by decide +kernel
theorem dX4_isWord_24 : decode cX4_isWord 24 = .ok (.iconst 0, 1) := by decide +kernel
theorem dX4_isWord_25 : decode cX4_isWord 25 = .ok (.ireturn, 1) := by decide +kernel
theorem dX4_isWord_26 : decode cX4_isWord 26 = .ok (.iconst 0, 1) := by decide +kernel
theorem dX4_isWord_27 : decode cX4_isWord 27 = .ok (.istore_n 2, 1) := by decide +kernel
theorem dX4_isWord_28 : decode cX4_isWord 28 = .ok (.iload_n 2, 1) := by decide +kernel
theorem dX4_isWord_29 : decode cX4_isWord 29 = .ok (.aload_n 1, 1) := by decide +kernel
theorem dX4_isWord_30 : decode cX4_isWord 30 = .ok (.invokevirtual 107, 3) := by decide +kernel
theorem dX4_isWord_33 : decode cX4_isWord 33 = .ok (.if_icmp .ge 29, 3) := by decide +kernel
theorem dX4_isWord_36 : decode cX4_isWord 36 = .ok (.aload_n 0, 1) := by decide +kernel
theorem dX4_isWord_37 : decode cX4_isWord 37 = .ok (.aload_n 0, 1) := by decide +kernel
theorem dX4_isWord_38 : decode cX4_isWord 38 = .ok (.getfield 104, 3) := by decide +kernel
theorem dX4_isWord_41 : decode cX4_isWord 41 = .ok (.iload_n 2, 1) := by decide +kernel
theorem dX4_isWord_42 : decode cX4_isWord 42 = .ok (.iadd, 1) := by decide +kernel
theorem dX4_isWord_43 : decode cX4_isWord 43 = .ok (.invokevirtual 111, 3) := by decide +kernel
theorem dX4_isWord_46 : decode cX4_isWord 46 = .ok (.aload_n 1, 1) := by decide +kernel
theorem dX4_isWord_47 : decode cX4_isWord 47 = .ok (.iload_n 2, 1) := by decide +kernel
theorem dX4_isWord_48 : decode cX4_isWord 48 = .ok (.invokevirtual 115, 3) := by decide +kernel
theorem dX4_isWord_51 : decode cX4_isWord 51 = .ok (.if_icmp .eq 5, 3) := by decide +kernel
theorem dX4_isWord_54 : decode cX4_isWord 54 = .ok (.iconst 0, 1) := by decide +kernel
theorem dX4_isWord_55 : decode cX4_isWord 55 = .ok (.ireturn, 1) := by decide +kernel
theorem dX4_isWord_56 : decode cX4_isWord 56 = .ok (.iinc 2 1, 3) := by decide +kernel
theorem dX4_isWord_59 : decode cX4_isWord 59 = .ok (.goto (-31), 3) := by decide +kernel
theorem dX4_isWord_62 : decode cX4_isWord 62 = .ok (.iconst 1, 1) := by decide +kernel
theorem dX4_isWord_63 : decode cX4_isWord 63 = .ok (.ireturn, 1) := by decide +kernel
theorem dX4_step_0 : decode cX4_step 0 = .ok (.aload_n 0, 1) := by decide +kernel
theorem dX4_step_1 : decode cX4_step 1 = .ok (.aload_n 0, 1) := by decide +kernel
theorem dX4_step_2 : decode cX4_step 2 = .ok (.aload_n 0, 1) := by decide +kernel
theorem dX4_step_3 : decode cX4_step 3 = .ok (.getfield 29, 3) := by decide +kernel
theorem dX4_step_6 : decode cX4_step 6 = .ok (.bipush 32, 2) := by decide +kernel
theorem dX4_step_8 : decode cX4_step 8 = .ok (.bipush 32, 2) := by decide +kernel
theorem dX4_step_10 : decode cX4_step 10 = .ok (.invokevirtual 119, 3) := by decide +kernel
theorem dX4_step_13 : decode cX4_step 13 = .ok (.putfield 104, 3) := by decide +kernel
theorem dX4_step_16 : decode cX4_step 16 = .ok (.aload_n 0, 1) := by decide +kernel
theorem dX4_step_17 : decode cX4_step 17 = .ok (.aload_n 0, 1) := by decide +kernel
theorem dX4_step_18 : decode cX4_step 18 = .ok (.getfield 104, 3) := by decide +kernel
theorem dX4_step_21 : decode cX4_step 21 = .ok (.invokevirtual 111, 3) := by decide +kernel
theorem dX4_step_24 : decode cX4_step 24 = .ok (.istore_n 1, 1) := by decide +kernel
theorem dX4_step_25 : decode cX4_step 25 = .ok (.iload_n 1, 1) := by decide +kernel
theorem dX4_step_26 : decode cX4_step 26 = .ok (.iconst (-1), 1) := by decide +kernel
theorem dX4_step_27 : decode cX4_step 27 = .ok (.if_icmp .ne 19, 3) := by decide +kernel
theorem dX4_step_30 : decode cX4_step 30 = .ok (.aload_n 0, 1) := by decide +kernel
theorem dX4_step_31 : decode cX4_step 31 = .ok (.iconst 0, 1) := by decide +kernel
theorem dX4_step_32 : decode cX4_step 32 = .ok (.putfield 48, 3) := by decide +kernel
theorem dX4_step_35 : decode cX4_step 35 = .ok (.aload_n 0, 1) := by decide +kernel
theorem dX4_step_36 : decode cX4_step 36 = .ok (.aload_n 0, 1) := by decide +kernel
theorem dX4_step_37 : decode cX4_step 37 = .ok (.getfield 104, 3) := by decide +kernel
theorem dX4_step_40 : decode cX4_step 40 = .ok (.putfield 29, 3) := by decide +kernel
theorem dX4_step_43 : decode cX4_step 43 = .ok (.goto 115, 3) := by decide +kernel
theorem dX4_step_46 : decode cX4_step 46 = .ok (.iload_n 1, 1) := by decide +kernel
theorem dX4_step_47 : decode cX4_step 47 = .ok (.bipush 97, 2) := by decide +kernel
theorem dX4_step_49 : decode cX4_step 49 = .ok (.bipush 122, 2) := by decide +kernel
theorem dX4_step_51 : decode cX4_step 51 = .ok (.invokestatic 82, 3) := by decide +kernel
theorem dX4_step_54 : decode cX4_step 54 = .ok (.ifCond .eq 27, 3) := by decide +kernel
theorem dX4_step_57 : decode cX4_step 57 = .ok (.aload_n 0, 1) := by decide +kernel
theorem dX4_step_58 : decode cX4_step 58 = .ok (.iconst 1, 1) := by decide +kernel
theorem dX4_step_59 : decode cX4_step 59 = .ok (.putfield 48, 3) := by decide +kernel
theorem dX4_step_62 : decode cX4_step 62 = .ok (.aload_n 0, 1) := by decide +kernel
theorem dX4_step_63 : decode cX4_step 63 = .ok (.aload_n 0, 1) := by decide +kernel
theorem dX4_step_64 : decode cX4_step 64 = .ok (.aload_n 0, 1) := by decide +kernel
theorem dX4_step_65 : decode cX4_step 65 = .ok (.getfield 104, 3) := by decide +kernel
theorem dX4_step_68 : decode cX4_step 68 = .ok (.bipush 97, 2) := by decide +kernel
theorem dX4_step_70 : decode cX4_step 70 = .ok (.bipush 122, 2) := by decide +kernel
theorem dX4_step_72 : decode cX4_step 72 = .ok (.invokevirtual 119, 3) := by decide +kernel
theorem dX4_step_75 : decode cX4_step 75 = .ok (.putfield 29, 3) := by decide +kernel
theorem dX4_step_78 : decode cX4_step 78 = .ok (.goto 80, 3) := by decide +kernel
theorem dX4_step_81 : decode cX4_step 81 = .ok (.iload_n 1, 1) := by decide +kernel
theorem dX4_step_82 : decode cX4_step 82 = .ok (.bipush 48, 2) := by decide +kernel
theorem dX4_step_84 : decode cX4_step 84 = .ok (.bipush 57, 2) := by decide +kernel
theorem dX4_step_86 : decode cX4_step 86 = .ok (.invokestatic 82, 3) := by decide +kernel
theorem dX4_step_89 : decode cX4_step 89 = .ok (.ifCond .eq 44, 3) := by decide +kernel
theorem dX4_step_92 : decode cX4_step 92 = .ok (.aload_n 0, 1) := by decide +kernel
theorem dX4_step_93 : decode cX4_step 93 = .ok (.aload_n 0, 1) := by decide +kernel
theorem dX4_step_94 : decode cX4_step 94 = .ok (.aload_n 0, 1) := by decide +kernel
theorem dX4_step_95 : decode cX4_step 95 = .ok (.getfield 104, 3) := by decide +kernel
theorem dX4_step_98 : decode cX4_step 98 = .ok (.bipush 48, 2) := by decide +kernel
theorem dX4_step_100 : decode cX4_step 100 = .ok (.bipush 57, 2) := by decide +kernel
theorem dX4_step_102 : decode cX4_step 102 = .ok (.invokevirtual 119, 3) := by decide +kernel
theorem dX4_step_105 : decode cX4_step 105 = .ok (.putfield 29, 3) := by decide +kernel
theorem dX4_step_108 : decode cX4_step 108 = .ok (.aload_n 0, 1) := by decide +kernel
theorem dX4_step_109 : decode cX4_step 109 = .ok (.aload_n 0, 1) := by decide +kernel
theorem dX4_step_110 : decode cX4_step 110 = .ok (.getfield 29, 3) := by decide +kernel
theorem dX4_step_113 : decode cX4_step 113 = .ok (.aload_n 0, 1) := by decide +kernel
theorem dX4_step_114 : decode cX4_step 114 = .ok (.getfield 104, 3) := by decide +kernel
theorem dX4_step_117 : decode cX4_step 117 = .ok (.isub, 1) := by decide +kernel
theorem dX4_step_118 : decode cX4_step 118 = .ok (.iconst 2, 1) := by decide +kernel
theorem dX4_step_119 : decode cX4_step 119 = .ok (.if_icmp .gt 7, 3) := by decide +kernel
theorem dX4_step_122 : decode cX4_step 122 = .ok (.iconst 2, 1) := by decide +kernel
theorem dX4_step_123 : decode cX4_step 123 = .ok (.goto 4, 3) := by decide +kernel
theorem dX4_step_126 : decode cX4_step 126 = .ok (.iconst 4, 1) := by decide +kernel
theorem dX4_step_127 : decode cX4_step 127 = .ok (.putfield 48, 3) := by decide +kernel
theorem dX4_step_130 : decode cX4_step 130 = .ok (.goto 28, 3) := by decide +kernel
theorem dX4_step_133 : decode cX4_step 133 = .ok (.aload_n 0, 1) := by decide +kernel
theorem dX4_step_134 : decode cX4_step 134 = .ok (.iload_n 1, 1) := by decide +kernel
theorem dX4_step_135 : decode cX4_step 135 = .ok (.bipush 59, 2) := by decide +kernel
theorem dX4_step_137 : decode cX4_step 137 = .ok (.if_icmp .ne 7, 3) := by decide +kernel
theorem dX4_step_140 : decode cX4_step 140 = .ok (.iconst 3, 1) := by decide +kernel
theorem dX4_step_141 : decode cX4_step 141 = .ok (.goto 4, 3) := by decide +kernel
theorem dX4_step_144 : decode cX4_step 144 = .ok (.iconst 4, 1) := by decide +kernel
theorem dX4_step_145 : decode cX4_step 145 = .ok (.putfield 48, 3) := by decide +kernel
theorem dX4_step_148 : decode cX4_step 148 = .ok (.aload_n 0, 1) := by decide +kernel
theorem dX4_step_149 : decode cX4_step 149 = .ok (.aload_n 0, 1) := by decide +kernel
theorem dX4_step_150 : decode cX4_step 150 = .ok (.getfield 104, 3) := by decide +kernel
theorem dX4_step_153 : decode cX4_step 153 = .ok (.iconst 1, 1) := by decide +kernel
theorem dX4_step_154 : decode cX4_step 154 = .ok (.iadd, 1) := by decide +kernel
theorem dX4_step_155 : decode cX4_step 155 = .ok (.putfield 29, 3) := by decide +kernel
theorem dX4_step_158 : decode cX4_step 158 = .ok (.return_, 1) := by decide +kernel
theorem dX4_valueOfFigures_0 : decode cX4_valueOfFigures 0 = .ok (.iconst 0, 1) := by decide +kernel
theorem dX4_valueOfFigures_1 : decode cX4_valueOfFigures 1 = .ok (.istore_n 1, 1) := by decide +kernel
theorem dX4_valueOfFigures_2 : decode cX4_valueOfFigures 2 = .ok (.aload_n 0, 1) := by decide +kernel
theorem dX4_valueOfFigures_3 : decode cX4_valueOfFigures 3 = .ok (.getfield 104, 3) := by decide +kernel
theorem dX4_valueOfFigures_6 : decode cX4_valueOfFigures 6 = .ok (.istore_n 2, 1) := by decide +kernel
theorem dX4_valueOfFigures_7 : decode cX4_valueOfFigures 7 = .ok (.iload_n 2, 1) := by decide +kernel
theorem dX4_valueOfFigures_8 : decode cX4_valueOfFigures 8 = .ok (.aload_n 0, 1) := by decide +kernel
theorem dX4_valueOfFigures_9 : decode cX4_valueOfFigures 9 = .ok (.getfield 29, 3) := by decide +kernel
theorem dX4_valueOfFigures_12 : decode cX4_valueOfFigures 12 = .ok (.if_icmp .ge 23, 3) := by decide +kernel
theorem dX4_valueOfFigures_15 : decode cX4_valueOfFigures 15 = .ok (.bipush 10, 2) := by decide +kernel
theorem dX4_valueOfFigures_17 : decode cX4_valueOfFigures 17 = .ok (.iload_n 1, 1) := by decide +kernel
theorem dX4_valueOfFigures_18 : decode cX4_valueOfFigures 18 = .ok (.imul, 1) := by decide +kernel
theorem dX4_valueOfFigures_19 : decode cX4_valueOfFigures 19 = .ok (.aload_n 0, 1) := by decide +kernel
theorem dX4_valueOfFigures_20 : decode cX4_valueOfFigures 20 = .ok (.iload_n 2, 1) := by decide +kernel
theorem dX4_valueOfFigures_21 : decode cX4_valueOfFigures 21 = .ok (.invokevirtual 111, 3) := by decide +kernel
theorem dX4_valueOfFigures_24 : decode cX4_valueOfFigures 24 = .ok (.iadd, 1) := by decide +kernel
theorem dX4_valueOfFigures_25 : decode cX4_valueOfFigures 25 = .ok (.bipush 48, 2) := by decide +kernel
theorem dX4_valueOfFigures_27 : decode cX4_valueOfFigures 27 = .ok (.isub, 1) := by decide +kernel
theorem dX4_valueOfFigures_28 : decode cX4_valueOfFigures 28 = .ok (.istore_n 1, 1) := by decide +kernel
theorem dX4_valueOfFigures_29 : decode cX4_valueOfFigures 29 = .ok (.iinc 2 1, 3) := by decide +kernel
theorem dX4_valueOfFigures_32 : decode cX4_valueOfFigures 32 = .ok (.goto (-25), 3) := by decide +kernel
theorem dX4_valueOfFigures_35 : decode cX4_valueOfFigures 35 = .ok (.iload_n 1, 1) := by decide +kernel
theorem dX4_valueOfFigures_36 : decode cX4_valueOfFigures 36 = .ok (.ireturn, 1) := by decide +kernel
theorem dX4_endOfRun_0 : decode cX4_endOfRun 0 = .ok (.iload_n 1, 1) := by decide +kernel
theorem dX4_endOfRun_1 : decode cX4_endOfRun 1 = .ok (.ifCond .ge 8, 3) := by decide +kernel
theorem dX4_endOfRun_4 : decode cX4_endOfRun 4 = .ok (.aload_n 0, 1) := by decide +kernel
theorem dX4_endOfRun_5 : decode cX4_endOfRun 5 = .ok (.getfield 22, 3) := by decide +kernel
theorem dX4_endOfRun_8 : decode cX4_endOfRun 8 = .ok (.ireturn, 1) := by decide +kernel
theorem dX4_endOfRun_9 : decode cX4_endOfRun 9 = .ok (.iload_n 1, 1) := by decide +kernel
theorem dX4_endOfRun_10 : decode cX4_endOfRun 10 = .ok (.istore 4, 2) := by decide +kernel
theorem dX4_endOfRun_12 : decode cX4_endOfRun 12 = .ok (.iload 4, 2) := by decide +kernel
theorem dX4_endOfRun_14 : decode cX4_endOfRun 14 = .ok (.aload_n 0, 1) := by decide +kernel
theorem dX4_endOfRun_15 : decode cX4_endOfRun 15 = .ok (.getfield 22, 3) := by decide +kernel
theorem dX4_endOfRun_18 : decode cX4_endOfRun 18 = .ok (.if_icmp .ge 42, 3) := by decide +kernel
theorem dX4_endOfRun_21 : decode cX4_endOfRun 21 = .ok (.iload 4, 2) := by decide +kernel
theorem dX4_endOfRun_23 : decode cX4_endOfRun 23 = .ok (.sipush 150, 3) := by decide +kernel
theorem dX4_endOfRun_26 : decode cX4_endOfRun 26 = .ok (.if_icmp .ge 34, 3) := by decide +kernel
theorem dX4_endOfRun_29 : decode cX4_endOfRun 29 = .ok (.aload_n 0, 1) := by decide +kernel
theorem dX4_endOfRun_30 : decode cX4_endOfRun 30 = .ok (.getfield 9, 3) := by decide +kernel
theorem dX4_endOfRun_33 : decode cX4_endOfRun 33 = .ok (.iload 4, 2) := by decide +kernel
theorem dX4_endOfRun_35 : decode cX4_endOfRun 35 = .ok (.iaload, 1) := by decide +kernel
theorem dX4_endOfRun_36 : decode cX4_endOfRun 36 = .ok (.iload_n 2, 1) := by decide +kernel
theorem dX4_endOfRun_37 : decode cX4_endOfRun 37 = .ok (.if_icmp .lt 14, 3) := by decide +kernel
theorem dX4_endOfRun_40 : decode cX4_endOfRun 40 = .ok (.aload_n 0, 1) := by decide +kernel
theorem dX4_endOfRun_41 : decode cX4_endOfRun 41 = .ok (.getfield 9, 3) := by decide +kernel
theorem dX4_endOfRun_44 : decode cX4_endOfRun 44 = .ok (.iload 4, 2) := by decide +kernel
theorem dX4_endOfRun_46 : decode cX4_endOfRun 46 = .ok (.iaload, 1) := by decide +kernel
theorem dX4_endOfRun_47 : decode cX4_endOfRun 47 = .ok (.iload_n 3, 1) := by decide +kernel
theorem dX4_endOfRun_48 : decode cX4_endOfRun 48 = .ok (.if_icmp .le 6, 3) := by decide +kernel
theorem dX4_endOfRun_51 : decode cX4_endOfRun 51 = .ok (.iload 4, 2) := by decide +kernel
theorem dX4_endOfRun_53 : decode cX4_endOfRun 53 = .ok (.ireturn, 1) := by decide +kernel
theorem dX4_endOfRun_54 : decode cX4_endOfRun 54 = .ok (.iinc 4 1, 3) := by decide +kernel
theorem dX4_endOfRun_57 : decode cX4_endOfRun 57 = .ok (.goto (-45), 3) := by decide +kernel
theorem dX4_endOfRun_60 : decode cX4_endOfRun 60 = .ok (.aload_n 0, 1) := by decide +kernel
theorem dX4_endOfRun_61 : decode cX4_endOfRun 61 = .ok (.getfield 22, 3) := by decide +kernel
theorem dX4_endOfRun_64 : decode cX4_endOfRun 64 = .ok (.ireturn, 1) := by decide +kernel
theorem dX4_byteAt_0 : decode cX4_byteAt 0 = .ok (.iload_n 1, 1) := by decide +kernel
theorem dX4_byteAt_1 : decode cX4_byteAt 1 = .ok (.ifCond .lt 20, 3) := by decide +kernel
theorem dX4_byteAt_4 : decode cX4_byteAt 4 = .ok (.iload_n 1, 1) := by decide +kernel
theorem dX4_byteAt_5 : decode cX4_byteAt 5 = .ok (.aload_n 0, 1) := by decide +kernel
theorem dX4_byteAt_6 : decode cX4_byteAt 6 = .ok (.getfield 22, 3) := by decide +kernel
theorem dX4_byteAt_9 : decode cX4_byteAt 9 = .ok (.if_icmp .ge 12, 3) := by decide +kernel
theorem dX4_byteAt_12 : decode cX4_byteAt 12 = .ok (.aload_n 0, 1) := by decide +kernel
theorem dX4_byteAt_13 : decode cX4_byteAt 13 = .ok (.getfield 9, 3) := by decide +kernel
theorem dX4_byteAt_16 : decode cX4_byteAt 16 = .ok (.iload_n 1, 1) := by decide +kernel
theorem dX4_byteAt_17 : decode cX4_byteAt 17 = .ok (.iaload, 1) := by decide +kernel
theorem dX4_byteAt_18 : decode cX4_byteAt 18 = .ok (.goto 4, 3) := by decide +kernel
theorem dX4_byteAt_21 : decode cX4_byteAt 21 = .ok (.iconst (-1), 1) := by decide +kernel
theorem dX4_byteAt_22 : decode cX4_byteAt 22 = .ok (.ireturn, 1) := by decide +kernel
theorem dX5_init_0 : decode cX5_init 0 = .ok (.aload_n 0, 1) := by decide +kernel
theorem dX5_init_1 : decode cX5_init 1 = .ok (.invokespecial 1, 3) := by decide +kernel
theorem dX5_init_4 : decode cX5_init 4 = .ok (.return_, 1) := by decide +kernel
theorem dX5_startAnew_0 : decode cX5_startAnew 0 = .ok (.aload_n 0, 1) := by decide +kernel
theorem dX5_startAnew_1 : decode cX5_startAnew 1 = .ok (.iconst 0, 1) := by decide +kernel
theorem dX5_startAnew_2 : decode cX5_startAnew 2 = .ok (.putfield 7, 3) := by decide +kernel
theorem dX5_startAnew_5 : decode cX5_startAnew 5 = .ok (.aload_n 0, 1) := by decide +kernel
theorem dX5_startAnew_6 : decode cX5_startAnew 6 = .ok (.iconst 0, 1) := by decide +kernel
theorem dX5_startAnew_7 : decode cX5_startAnew 7 = .ok (.putfield 13, 3) := by decide +kernel
theorem dX5_startAnew_10 : decode cX5_startAnew 10 = .ok (.aload_n 0, 1) := by decide +kernel
theorem dX5_startAnew_11 : decode cX5_startAnew 11 = .ok (.iconst 0, 1) := by decide +kernel
theorem dX5_startAnew_12 : decode cX5_startAnew 12 = .ok (.putfield 16, 3) := by decide +kernel
theorem dX5_startAnew_15 : decode cX5_startAnew 15 = .ok (.aload_n 0, 1) := by decide +kernel
theorem dX5_startAnew_16 : decode cX5_startAnew 16 = .ok (.iconst 0, 1) := by decide +kernel
theorem dX5_startAnew_17 : decode cX5_startAnew 17 = .ok (.putfield 19, 3) := by decide +kernel
theorem dX5_startAnew_20 : decode cX5_startAnew 20 = .ok (.aload_n 0, 1) := by decide +kernel
theorem dX5_startAnew_21 : decode cX5_startAnew 21 = .ok (.iconst 0, 1) := by decide +kernel
theorem dX5_startAnew_22 : decode cX5_startAnew 22 = .ok (.putfield 22, 3) := by decide +kernel
theorem dX5_startAnew_25 : decode cX5_startAnew 25 = .ok (.return_, 1) := by decide +kernel
theorem dX5_take_0 : decode cX5_take 0 = .ok (.aload_n 0, 1) := by decide +kernel
theorem dX5_take_1 : decode cX5_take 1 = .ok (.aload_n 1, 1) := by decide +kernel
theorem dX5_take_2 : decode cX5_take 2 = .ok (.getfield 7, 3) := by decide +kernel
theorem dX5_take_5 : decode cX5_take 5 = .ok (.putfield 7, 3) := by decide +kernel
theorem dX5_take_8 : decode cX5_take 8 = .ok (.aload_n 0, 1) := by decide +kernel
theorem dX5_take_9 : decode cX5_take 9 = .ok (.aload_n 1, 1) := by decide +kernel
theorem dX5_take_10 : decode cX5_take 10 = .ok (.getfield 13, 3) := by decide +kernel
theorem dX5_take_13 : decode cX5_take 13 = .ok (.putfield 13, 3) := by decide +kernel
theorem dX5_take_16 : decode cX5_take 16 = .ok (.aload_n 0, 1) := by decide +kernel
theorem dX5_take_17 : decode cX5_take 17 = .ok (.aload_n 1, 1) := by decide +kernel
theorem dX5_take_18 : decode cX5_take 18 = .ok (.getfield 16, 3) := by decide +kernel
theorem dX5_take_21 : decode cX5_take 21 = .ok (.putfield 16, 3) := by decide +kernel
theorem dX5_take_24 : decode cX5_take 24 = .ok (.aload_n 0, 1) := by decide +kernel
theorem dX5_take_25 : decode cX5_take 25 = .ok (.aload_n 1, 1) := by decide +kernel
theorem dX5_take_26 : decode cX5_take 26 = .ok (.getfield 19, 3) := by decide +kernel
theorem dX5_take_29 : decode cX5_take 29 = .ok (.putfield 19, 3) := by decide +kernel
theorem dX5_take_32 : decode cX5_take 32 = .ok (.aload_n 0, 1) := by decide +kernel
theorem dX5_take_33 : decode cX5_take 33 = .ok (.aload_n 1, 1) := by decide +kernel
theorem dX5_take_34 : decode cX5_take 34 = .ok (.getfield 22, 3) := by decide +kernel
theorem dX5_take_37 : decode cX5_take 37 = .ok (.putfield 22, 3) := by decide +kernel
theorem dX5_take_40 : decode cX5_take 40 = .ok (.return_, 1) := by decide +kernel
theorem dX6_init_0 : decode cX6_init 0 = .ok (.aload_n 0, 1) := by decide +kernel
theorem dX6_init_1 : decode cX6_init 1 = .ok (.invokespecial 1, 3) := by decide +kernel
theorem dX6_init_4 : decode cX6_init 4 = .ok (.return_, 1) := by decide +kernel
theorem dX6_find_0 : decode cX6_find 0 = .ok (.aload_n 0, 1) := by decide +kernel
theorem dX6_find_1 : decode cX6_find 1 = .ok (.iconst 0, 1) := by decide +kernel
theorem dX6_find_2 : decode cX6_find 2 = .ok (.putfield 7, 3) := by decide +kernel
theorem dX6_find_5 : decode cX6_find 5 = .ok (.aload_n 0, 1) := by decide +kernel
theorem dX6_find_6 : decode cX6_find 6 = .ok (.iconst 1, 1) := by decide +kernel
theorem dX6_find_7 : decode cX6_find 7 = .ok (.aload_n 1, 1) := by decide +kernel
theorem dX6_find_8 : decode cX6_find 8 = .ok (.getfield 13, 3) := by decide +kernel
theorem dX6_find_11 : decode cX6_find 11 = .ok (.ishl, 1) := by decide +kernel
theorem dX6_find_12 : decode cX6_find 12 = .ok (.iconst 1, 1) := by decide +kernel
theorem dX6_find_13 : decode cX6_find 13 = .ok (.isub, 1) := by decide +kernel
theorem dX6_find_14 : decode cX6_find 14 = .ok (.putfield 18, 3) := by decide +kernel
theorem dX6_find_17 : decode cX6_find 17 = .ok (.aload_n 0, 1) := by decide +kernel
theorem dX6_find_18 : decode cX6_find 18 = .ok (.iconst 0, 1) := by decide +kernel
theorem dX6_find_19 : decode cX6_find 19 = .ok (.putfield 21, 3) := by decide +kernel
theorem dX6_find_22 : decode cX6_find 22 = .ok (.iconst 0, 1) := by decide +kernel
theorem dX6_find_23 : decode cX6_find 23 = .ok (.istore 4, 2) := by decide +kernel
theorem dX6_find_25 : decode cX6_find 25 = .ok (.iload 4, 2) := by decide +kernel
theorem dX6_find_27 : decode cX6_find 27 = .ok (.iconst 1, 1) := by decide +kernel
theorem dX6_find_28 : decode cX6_find 28 = .ok (.aload_n 1, 1) := by decide +kernel
theorem dX6_find_29 : decode cX6_find 29 = .ok (.getfield 13, 3) := by decide +kernel
theorem dX6_find_32 : decode cX6_find 32 = .ok (.ishl, 1) := by decide +kernel
theorem dX6_find_33 : decode cX6_find 33 = .ok (.if_icmp .ge 55, 3) := by decide +kernel
theorem dX6_find_36 : decode cX6_find 36 = .ok (.aload_n 1, 1) := by decide +kernel
theorem dX6_find_37 : decode cX6_find 37 = .ok (.iload 4, 2) := by decide +kernel
theorem dX6_find_39 : decode cX6_find 39 = .ok (.iload_n 2, 1) := by decide +kernel
theorem dX6_find_40 : decode cX6_find 40 = .ok (.iload_n 3, 1) := by decide +kernel
theorem dX6_find_41 : decode cX6_find 41 = .ok (.invokestatic 24, 3) := by decide +kernel
theorem dX6_find_44 : decode cX6_find 44 = .ok (.ifCond .ne 6, 3) := by decide +kernel
theorem dX6_find_47 : decode cX6_find 47 = .ok (.goto 35, 3) := by decide +kernel
theorem dX6_find_50 : decode cX6_find 50 = .ok (.aload_n 0, 1) := by decide +kernel
theorem dX6_find_51 : decode cX6_find 51 = .ok (.dup, 1) := by decide +kernel
theorem dX6_find_52 : decode cX6_find 52 = .ok (.getfield 7, 3) := by decide +kernel
theorem dX6_find_55 : decode cX6_find 55 = .ok (.iconst 1, 1) := by decide +kernel
theorem dX6_find_56 : decode cX6_find 56 = .ok (.iadd, 1) := by decide +kernel
theorem dX6_find_57 : decode cX6_find 57 = .ok (.putfield 7, 3) := by decide +kernel
theorem dX6_find_60 : decode cX6_find 60 = .ok (.aload_n 0, 1) := by decide +kernel
theorem dX6_find_61 : decode cX6_find 61 = .ok (.dup, 1) := by decide +kernel
theorem dX6_find_62 : decode cX6_find 62 = .ok (.getfield 18, 3) := by decide +kernel
theorem dX6_find_65 : decode cX6_find 65 = .ok (.iload 4, 2) := by decide +kernel
theorem dX6_find_67 : decode cX6_find 67 = .ok (.iand, 1) := by decide +kernel
theorem dX6_find_68 : decode cX6_find 68 = .ok (.putfield 18, 3) := by decide +kernel
theorem dX6_find_71 : decode cX6_find 71 = .ok (.aload_n 0, 1) := by decide +kernel
theorem dX6_find_72 : decode cX6_find 72 = .ok (.dup, 1) := by decide +kernel
theorem dX6_find_73 : decode cX6_find 73 = .ok (.getfield 21, 3) := by decide +kernel
theorem dX6_find_76 : decode cX6_find 76 = .ok (.iload 4, 2) := by decide +kernel
theorem dX6_find_78 : decode cX6_find 78 = .ok (.ior, 1) := by decide +kernel
theorem dX6_find_79 : decode cX6_find 79 = .ok (.putfield 21, 3) := by decide +kernel
theorem dX6_find_82 : decode cX6_find 82 = .ok (.iinc 4 1, 3) := by decide +kernel
theorem dX6_find_85 : decode cX6_find 85 = .ok (.goto (-60), 3) := by decide +kernel
theorem dX6_find_88 : decode cX6_find 88 = .ok (.return_, 1) := by decide +kernel
theorem dX6_canBe_0 : decode cX6_canBe 0 = .ok (.iload_n 1, 1) := by decide +kernel
theorem dX6_canBe_1 : decode cX6_canBe 1 = .ok (.invokestatic 28, 3) := by decide +kernel
theorem dX6_canBe_4 : decode cX6_canBe 4 = .ok (.aload_n 0, 1) := by decide +kernel
theorem dX6_canBe_5 : decode cX6_canBe 5 = .ok (.getfield 34, 3) := by decide +kernel
theorem dX6_canBe_8 : decode cX6_canBe 8 = .ok (.if_icmp .gt 25, 3) := by decide +kernel
theorem dX6_canBe_11 : decode cX6_canBe 11 = .ok (.aload_n 0, 1) := by decide +kernel
theorem dX6_canBe_12 : decode cX6_canBe 12 = .ok (.iload_n 1, 1) := by decide +kernel
theorem dX6_canBe_13 : decode cX6_canBe 13 = .ok (.iload_n 2, 1) := by decide +kernel
theorem dX6_canBe_14 : decode cX6_canBe 14 = .ok (.invokevirtual 37, 3) := by decide +kernel
theorem dX6_canBe_17 : decode cX6_canBe 17 = .ok (.iload_n 3, 1) := by decide +kernel
theorem dX6_canBe_18 : decode cX6_canBe 18 = .ok (.if_icmp .ne 15, 3) := by decide +kernel
theorem dX6_canBe_21 : decode cX6_canBe 21 = .ok (.aload_n 0, 1) := by decide +kernel
theorem dX6_canBe_22 : decode cX6_canBe 22 = .ok (.iload_n 1, 1) := by decide +kernel
theorem dX6_canBe_23 : decode cX6_canBe 23 = .ok (.invokevirtual 41, 3) := by decide +kernel
theorem dX6_canBe_26 : decode cX6_canBe 26 = .ok (.ifCond .ne 7, 3) := by decide +kernel
theorem dX6_canBe_29 : decode cX6_canBe 29 = .ok (.iconst 1, 1) := by decide +kernel
theorem dX6_canBe_30 : decode cX6_canBe 30 = .ok (.goto 4, 3) := by decide +kernel
theorem dX6_canBe_33 : decode cX6_canBe 33 = .ok (.iconst 0, 1) := by decide +kernel
theorem dX6_canBe_34 : decode cX6_canBe 34 = .ok (.ireturn, 1) := by decide +kernel
theorem dX7_init_0 : decode cX7_init 0 = .ok (.aload_n 0, 1) := by decide +kernel
theorem dX7_init_1 : decode cX7_init 1 = .ok (.invokespecial 3, 3) := by decide +kernel
theorem dX7_init_4 : decode cX7_init 4 = .ok (.aload_n 0, 1) := by decide +kernel
theorem dX7_init_5 : decode cX7_init 5 = .ok (.bipush 100, 2) := by decide +kernel
theorem dX7_init_7 : decode cX7_init 7 = .ok (.newarray .int, 2) := by decide +kernel
theorem dX7_init_9 : decode cX7_init 9 = .ok (.putfield 9, 3) := by decide +kernel
theorem dX7_init_12 : decode cX7_init 12 = .ok (.aload_n 0, 1) := by decide +kernel
theorem dX7_init_13 : decode cX7_init 13 = .ok (.bipush 100, 2) := by decide +kernel
theorem dX7_init_15 : decode cX7_init 15 = .ok (.newarray .int, 2) := by decide +kernel
theorem dX7_init_17 : decode cX7_init 17 = .ok (.putfield 15, 3) := by decide +kernel
theorem dX7_init_20 : decode cX7_init 20 = .ok (.return_, 1) := by decide +kernel
theorem dX7_play_0 : decode cX7_play 0 = .ok (.aload_n 1, 1) := by decide +kernel
theorem dX7_play_1 : decode cX7_play 1 = .ok (.iload_n 3, 1) := by decide +kernel
theorem dX7_play_2 : decode cX7_play 2 = .ok (.iload 4, 2) := by decide +kernel
theorem dX7_play_4 : decode cX7_play 4 = .ok (.invokevirtual 18, 3) := by decide +kernel
theorem dX7_play_7 : decode cX7_play 7 = .ok (.ifCond .ne 4, 3) := by decide +kernel
theorem dX7_play_10 : decode cX7_play 10 = .ok (.return_, 1) := by decide +kernel
theorem dX7_play_11 : decode cX7_play 11 = .ok (.aload_n 0, 1) := by decide +kernel
theorem dX7_play_12 : decode cX7_play 12 = .ok (.aload_n 1, 1) := by decide +kernel
theorem dX7_play_13 : decode cX7_play 13 = .ok (.getfield 24, 3) := by decide +kernel
theorem dX7_play_16 : decode cX7_play 16 = .ok (.iload_n 3, 1) := by decide +kernel
theorem dX7_play_17 : decode cX7_play 17 = .ok (.iaload, 1) := by decide +kernel
theorem dX7_play_18 : decode cX7_play 18 = .ok (.putfield 27, 3) := by decide +kernel
theorem dX7_play_21 : decode cX7_play 21 = .ok (.aload_n 0, 1) := by decide +kernel
theorem dX7_play_22 : decode cX7_play 22 = .ok (.aload_n 1, 1) := by decide +kernel
theorem dX7_play_23 : decode cX7_play 23 = .ok (.getfield 24, 3) := by decide +kernel
theorem dX7_play_26 : decode cX7_play 26 = .ok (.iload 4, 2) := by decide +kernel
theorem dX7_play_28 : decode cX7_play 28 = .ok (.iaload, 1) := by decide +kernel
theorem dX7_play_29 : decode cX7_play 29 = .ok (.putfield 31, 3) := by decide +kernel
theorem dX7_play_32 : decode cX7_play 32 = .ok (.iconst 0, 1) := by decide +kernel
theorem dX7_play_33 : decode cX7_play 33 = .ok (.istore 5, 2) := by decide +kernel
theorem dX7_play_35 : decode cX7_play 35 = .ok (.iload 5, 2) := by decide +kernel
theorem dX7_play_37 : decode cX7_play 37 = .ok (.aload_n 0, 1) := by decide +kernel
theorem dX7_play_38 : decode cX7_play 38 = .ok (.getfield 27, 3) := by decide +kernel
theorem dX7_play_41 : decode cX7_play 41 = .ok (.if_icmp .ge 66, 3) := by decide +kernel
theorem dX7_play_44 : decode cX7_play 44 = .ok (.iconst 0, 1) := by decide +kernel
theorem dX7_play_45 : decode cX7_play 45 = .ok (.istore 6, 2) := by decide +kernel
theorem dX7_play_47 : decode cX7_play 47 = .ok (.iload 6, 2) := by decide +kernel
theorem dX7_play_49 : decode cX7_play 49 = .ok (.aload_n 0, 1) := by decide +kernel
theorem dX7_play_50 : decode cX7_play 50 = .ok (.getfield 31, 3) := by decide +kernel
theorem dX7_play_53 : decode cX7_play 53 = .ok (.if_icmp .ge 48, 3) := by decide +kernel
theorem dX7_play_56 : decode cX7_play 56 = .ok (.aload_n 2, 1) := by decide +kernel
theorem dX7_play_57 : decode cX7_play 57 = .ok (.aload_n 1, 1) := by decide +kernel
theorem dX7_play_58 : decode cX7_play 58 = .ok (.invokevirtual 34, 3) := by decide +kernel
theorem dX7_play_61 : decode cX7_play 61 = .ok (.aload_n 2, 1) := by decide +kernel
theorem dX7_play_62 : decode cX7_play 62 = .ok (.getfield 40, 3) := by decide +kernel
theorem dX7_play_65 : decode cX7_play 65 = .ok (.iload_n 3, 1) := by decide +kernel
theorem dX7_play_66 : decode cX7_play 66 = .ok (.iload 5, 2) := by decide +kernel
theorem dX7_play_68 : decode cX7_play 68 = .ok (.iastore, 1) := by decide +kernel
theorem dX7_play_69 : decode cX7_play 69 = .ok (.aload_n 2, 1) := by decide +kernel
theorem dX7_play_70 : decode cX7_play 70 = .ok (.getfield 40, 3) := by decide +kernel
theorem dX7_play_73 : decode cX7_play 73 = .ok (.iload 4, 2) := by decide +kernel
theorem dX7_play_75 : decode cX7_play 75 = .ok (.iload 6, 2) := by decide +kernel
theorem dX7_play_77 : decode cX7_play 77 = .ok (.iastore, 1) := by decide +kernel
theorem dX7_play_78 : decode cX7_play 78 = .ok (.aload_n 0, 1) := by decide +kernel
theorem dX7_play_79 : decode cX7_play 79 = .ok (.aload_n 1, 1) := by decide +kernel
theorem dX7_play_80 : decode cX7_play 80 = .ok (.aload_n 2, 1) := by decide +kernel
theorem dX7_play_81 : decode cX7_play 81 = .ok (.iload_n 3, 1) := by decide +kernel
theorem dX7_play_82 : decode cX7_play 82 = .ok (.iload 4, 2) := by decide +kernel
theorem dX7_play_84 : decode cX7_play 84 = .ok (.bipush 10, 2) := by decide +kernel
theorem dX7_play_86 : decode cX7_play 86 = .ok (.iload 5, 2) := by decide +kernel
theorem dX7_play_88 : decode cX7_play 88 = .ok (.imul, 1) := by decide +kernel
theorem dX7_play_89 : decode cX7_play 89 = .ok (.iload 6, 2) := by decide +kernel
theorem dX7_play_91 : decode cX7_play 91 = .ok (.iadd, 1) := by decide +kernel
theorem dX7_play_92 : decode cX7_play 92 = .ok (.invokevirtual 43, 3) := by decide +kernel
theorem dX7_play_95 : decode cX7_play 95 = .ok (.iinc 6 1, 3) := by decide +kernel
theorem dX7_play_98 : decode cX7_play 98 = .ok (.goto (-51), 3) := by decide +kernel
theorem dX7_play_101 : decode cX7_play 101 = .ok (.iinc 5 1, 3) := by decide +kernel
theorem dX7_play_104 : decode cX7_play 104 = .ok (.goto (-69), 3) := by decide +kernel
theorem dX7_play_107 : decode cX7_play 107 = .ok (.return_, 1) := by decide +kernel
theorem dX7_countStops_0 : decode cX7_countStops 0 = .ok (.iconst 0, 1) := by decide +kernel
theorem dX7_countStops_1 : decode cX7_countStops 1 = .ok (.istore 6, 2) := by decide +kernel
theorem dX7_countStops_3 : decode cX7_countStops 3 = .ok (.iconst 0, 1) := by decide +kernel
theorem dX7_countStops_4 : decode cX7_countStops 4 = .ok (.istore 7, 2) := by decide +kernel
theorem dX7_countStops_6 : decode cX7_countStops 6 = .ok (.iconst 0, 1) := by decide +kernel
theorem dX7_countStops_7 : decode cX7_countStops 7 = .ok (.istore 8, 2) := by decide +kernel
theorem dX7_countStops_9 : decode cX7_countStops 9 = .ok (.iload 8, 2) := by decide +kernel
theorem dX7_countStops_11 : decode cX7_countStops 11 = .ok (.bipush 10, 2) := by decide +kernel
theorem dX7_countStops_13 : decode cX7_countStops 13 = .ok (.if_icmp .ge 58, 3) := by decide +kernel
theorem dX7_countStops_16 : decode cX7_countStops 16 = .ok (.aload_n 1, 1) := by decide +kernel
theorem dX7_countStops_17 : decode cX7_countStops 17 = .ok (.aload_n 2, 1) := by decide +kernel
theorem dX7_countStops_18 : decode cX7_countStops 18 = .ok (.getfield 47, 3) := by decide +kernel
theorem dX7_countStops_21 : decode cX7_countStops 21 = .ok (.aload_n 2, 1) := by decide +kernel
theorem dX7_countStops_22 : decode cX7_countStops 22 = .ok (.getfield 40, 3) := by decide +kernel
theorem dX7_countStops_25 : decode cX7_countStops 25 = .ok (.aload_n 2, 1) := by decide +kernel
theorem dX7_countStops_26 : decode cX7_countStops 26 = .ok (.getfield 51, 3) := by decide +kernel
theorem dX7_countStops_29 : decode cX7_countStops 29 = .ok (.invokevirtual 54, 3) := by decide +kernel
theorem dX7_countStops_32 : decode cX7_countStops 32 = .ok (.iload 6, 2) := by decide +kernel
theorem dX7_countStops_34 : decode cX7_countStops 34 = .ok (.aload_n 2, 1) := by decide +kernel
theorem dX7_countStops_35 : decode cX7_countStops 35 = .ok (.getfield 47, 3) := by decide +kernel
theorem dX7_countStops_38 : decode cX7_countStops 38 = .ok (.getfield 58, 3) := by decide +kernel
theorem dX7_countStops_41 : decode cX7_countStops 41 = .ok (.iload_n 3, 1) := by decide +kernel
theorem dX7_countStops_42 : decode cX7_countStops 42 = .ok (.invokestatic 63, 3) := by decide +kernel
theorem dX7_countStops_45 : decode cX7_countStops 45 = .ok (.iadd, 1) := by decide +kernel
theorem dX7_countStops_46 : decode cX7_countStops 46 = .ok (.istore 6, 2) := by decide +kernel
theorem dX7_countStops_48 : decode cX7_countStops 48 = .ok (.iload 7, 2) := by decide +kernel
theorem dX7_countStops_50 : decode cX7_countStops 50 = .ok (.aload_n 2, 1) := by decide +kernel
theorem dX7_countStops_51 : decode cX7_countStops 51 = .ok (.getfield 47, 3) := by decide +kernel
theorem dX7_countStops_54 : decode cX7_countStops 54 = .ok (.getfield 58, 3) := by decide +kernel
theorem dX7_countStops_57 : decode cX7_countStops 57 = .ok (.iload 4, 2) := by decide +kernel
theorem dX7_countStops_59 : decode cX7_countStops 59 = .ok (.invokestatic 63, 3) := by decide +kernel
theorem dX7_countStops_62 : decode cX7_countStops 62 = .ok (.iadd, 1) := by decide +kernel
theorem dX7_countStops_63 : decode cX7_countStops 63 = .ok (.istore 7, 2) := by decide +kernel
theorem dX7_countStops_65 : decode cX7_countStops 65 = .ok (.iinc 8 1, 3) := by decide +kernel
theorem dX7_countStops_68 : decode cX7_countStops 68 = .ok (.goto (-59), 3) := by decide +kernel
theorem dX7_countStops_71 : decode cX7_countStops 71 = .ok (.aload_n 0, 1) := by decide +kernel
theorem dX7_countStops_72 : decode cX7_countStops 72 = .ok (.getfield 9, 3) := by decide +kernel
theorem dX7_countStops_75 : decode cX7_countStops 75 = .ok (.iload 5, 2) := by decide +kernel
theorem dX7_countStops_77 : decode cX7_countStops 77 = .ok (.iload 6, 2) := by decide +kernel
theorem dX7_countStops_79 : decode cX7_countStops 79 = .ok (.iastore, 1) := by decide +kernel
theorem dX7_countStops_80 : decode cX7_countStops 80 = .ok (.aload_n 0, 1) := by decide +kernel
theorem dX7_countStops_81 : decode cX7_countStops 81 = .ok (.getfield 15, 3) := by decide +kernel
theorem dX7_countStops_84 : decode cX7_countStops 84 = .ok (.iload 5, 2) := by decide +kernel
theorem dX7_countStops_86 : decode cX7_countStops 86 = .ok (.iload 7, 2) := by decide +kernel
theorem dX7_countStops_88 : decode cX7_countStops 88 = .ok (.iastore, 1) := by decide +kernel
theorem dX7_countStops_89 : decode cX7_countStops 89 = .ok (.return_, 1) := by decide +kernel
theorem dX7_rests_0 : decode cX7_rests 0 = .ok (.iconst 0, 1) := by decide +kernel
theorem dX7_rests_1 : decode cX7_rests 1 = .ok (.istore_n 3, 1) := by decide +kernel
theorem dX7_rests_2 : decode cX7_rests 2 = .ok (.iload_n 3, 1) := by decide +kernel
theorem dX7_rests_3 : decode cX7_rests 3 = .ok (.aload_n 0, 1) := by decide +kernel
theorem dX7_rests_4 : decode cX7_rests 4 = .ok (.getfield 27, 3) := by decide +kernel
theorem dX7_rests_7 : decode cX7_rests 7 = .ok (.if_icmp .ge 36, 3) := by decide +kernel
theorem dX7_rests_10 : decode cX7_rests 10 = .ok (.aload_n 0, 1) := by decide +kernel
theorem dX7_rests_11 : decode cX7_rests 11 = .ok (.getfield 9, 3) := by decide +kernel
theorem dX7_rests_14 : decode cX7_rests 14 = .ok (.bipush 10, 2) := by decide +kernel
theorem dX7_rests_16 : decode cX7_rests 16 = .ok (.iload_n 3, 1) := by decide +kernel
theorem dX7_rests_17 : decode cX7_rests 17 = .ok (.imul, 1) := by decide +kernel
theorem dX7_rests_18 : decode cX7_rests 18 = .ok (.iload_n 2, 1) := by decide +kernel
theorem dX7_rests_19 : decode cX7_rests 19 = .ok (.iadd, 1) := by decide +kernel
theorem dX7_rests_20 : decode cX7_rests 20 = .ok (.iaload, 1) := by decide +kernel
theorem dX7_rests_21 : decode cX7_rests 21 = .ok (.aload_n 0, 1) := by decide +kernel
theorem dX7_rests_22 : decode cX7_rests 22 = .ok (.getfield 9, 3) := by decide +kernel
theorem dX7_rests_25 : decode cX7_rests 25 = .ok (.bipush 10, 2) := by decide +kernel
theorem dX7_rests_27 : decode cX7_rests 27 = .ok (.iload_n 1, 1) := by decide +kernel
theorem dX7_rests_28 : decode cX7_rests 28 = .ok (.imul, 1) := by decide +kernel
theorem dX7_rests_29 : decode cX7_rests 29 = .ok (.iload_n 2, 1) := by decide +kernel
theorem dX7_rests_30 : decode cX7_rests 30 = .ok (.iadd, 1) := by decide +kernel
theorem dX7_rests_31 : decode cX7_rests 31 = .ok (.iaload, 1) := by decide +kernel
theorem dX7_rests_32 : decode cX7_rests 32 = .ok (.if_icmp .le 5, 3) := by decide +kernel
theorem dX7_rests_35 : decode cX7_rests 35 = .ok (.iconst 0, 1) := by decide +kernel
theorem dX7_rests_36 : decode cX7_rests 36 = .ok (.ireturn, 1) := by decide +kernel
theorem dX7_rests_37 : decode cX7_rests 37 = .ok (.iinc 3 1, 3) := by decide +kernel
theorem dX7_rests_40 : decode cX7_rests 40 = .ok (.goto (-38), 3) := by decide +kernel
theorem dX7_rests_43 : decode cX7_rests 43 = .ok (.iconst 0, 1) := by decide +kernel
theorem dX7_rests_44 : decode cX7_rests 44 = .ok (.istore_n 3, 1) := by decide +kernel
theorem dX7_rests_45 : decode cX7_rests 45 = .ok (.iload_n 3, 1) := by decide +kernel
theorem dX7_rests_46 : decode cX7_rests 46 = .ok (.aload_n 0, 1) := by decide +kernel
theorem dX7_rests_47 : decode cX7_rests 47 = .ok (.getfield 31, 3) := by decide +kernel
theorem dX7_rests_50 : decode cX7_rests 50 = .ok (.if_icmp .ge 36, 3) := by decide +kernel
theorem dX7_rests_53 : decode cX7_rests 53 = .ok (.aload_n 0, 1) := by decide +kernel
theorem dX7_rests_54 : decode cX7_rests 54 = .ok (.getfield 15, 3) := by decide +kernel
theorem dX7_rests_57 : decode cX7_rests 57 = .ok (.bipush 10, 2) := by decide +kernel
theorem dX7_rests_59 : decode cX7_rests 59 = .ok (.iload_n 1, 1) := by decide +kernel
theorem dX7_rests_60 : decode cX7_rests 60 = .ok (.imul, 1) := by decide +kernel
theorem dX7_rests_61 : decode cX7_rests 61 = .ok (.iload_n 3, 1) := by decide +kernel
theorem dX7_rests_62 : decode cX7_rests 62 = .ok (.iadd, 1) := by decide +kernel
theorem dX7_rests_63 : decode cX7_rests 63 = .ok (.iaload, 1) := by decide +kernel
theorem dX7_rests_64 : decode cX7_rests 64 = .ok (.aload_n 0, 1) := by decide +kernel
theorem dX7_rests_65 : decode cX7_rests 65 = .ok (.getfield 15, 3) := by decide +kernel
theorem dX7_rests_68 : decode cX7_rests 68 = .ok (.bipush 10, 2) := by decide +kernel
theorem dX7_rests_70 : decode cX7_rests 70 = .ok (.iload_n 1, 1) := by decide +kernel
theorem dX7_rests_71 : decode cX7_rests 71 = .ok (.imul, 1) := by decide +kernel
theorem dX7_rests_72 : decode cX7_rests 72 = .ok (.iload_n 2, 1) := by decide +kernel
theorem dX7_rests_73 : decode cX7_rests 73 = .ok (.iadd, 1) := by decide +kernel
theorem dX7_rests_74 : decode cX7_rests 74 = .ok (.iaload, 1) := by decide +kernel
theorem dX7_rests_75 : decode cX7_rests 75 = .ok (.if_icmp .le 5, 3) := by decide +kernel
theorem dX7_rests_78 : decode cX7_rests 78 = .ok (.iconst 0, 1) := by decide +kernel
theorem dX7_rests_79 : decode cX7_rests 79 = .ok (.ireturn, 1) := by decide +kernel
theorem dX7_rests_80 : decode cX7_rests 80 = .ok (.iinc 3 1, 3) := by decide +kernel
theorem dX7_rests_83 : decode cX7_rests 83 = .ok (.goto (-38), 3) := by decide +kernel
theorem dX7_rests_86 : decode cX7_rests 86 = .ok (.iconst 1, 1) := by decide +kernel
theorem dX7_rests_87 : decode cX7_rests 87 = .ok (.ireturn, 1) := by decide +kernel
theorem dX7_resting_0 : decode cX7_resting 0 = .ok (.iconst 0, 1) := by decide +kernel
theorem dX7_resting_1 : decode cX7_resting 1 = .ok (.istore_n 1, 1) := by decide +kernel
theorem dX7_resting_2 : decode cX7_resting 2 = .ok (.iconst 0, 1) := by decide +kernel
theorem dX7_resting_3 : decode cX7_resting 3 = .ok (.istore_n 2, 1) := by decide +kernel
theorem dX7_resting_4 : decode cX7_resting 4 = .ok (.iload_n 2, 1) := by decide +kernel
theorem dX7_resting_5 : decode cX7_resting 5 = .ok (.aload_n 0, 1) := by decide +kernel
theorem dX7_resting_6 : decode cX7_resting 6 = .ok (.getfield 27, 3) := by decide +kernel
theorem dX7_resting_9 : decode cX7_resting 9 = .ok (.if_icmp .ge 37, 3) := by decide +kernel
theorem dX7_resting_12 : decode cX7_resting 12 = .ok (.iconst 0, 1) := by decide +kernel
theorem dX7_resting_13 : decode cX7_resting 13 = .ok (.istore_n 3, 1) := by decide +kernel
theorem dX7_resting_14 : decode cX7_resting 14 = .ok (.iload_n 3, 1) := by decide +kernel
theorem dX7_resting_15 : decode cX7_resting 15 = .ok (.aload_n 0, 1) := by decide +kernel
theorem dX7_resting_16 : decode cX7_resting 16 = .ok (.getfield 31, 3) := by decide +kernel
theorem dX7_resting_19 : decode cX7_resting 19 = .ok (.if_icmp .ge 21, 3) := by decide +kernel
theorem dX7_resting_22 : decode cX7_resting 22 = .ok (.aload_n 0, 1) := by decide +kernel
theorem dX7_resting_23 : decode cX7_resting 23 = .ok (.iload_n 2, 1) := by decide +kernel
theorem dX7_resting_24 : decode cX7_resting 24 = .ok (.iload_n 3, 1) := by decide +kernel
theorem dX7_resting_25 : decode cX7_resting 25 = .ok (.invokevirtual 67, 3) := by decide +kernel
theorem dX7_resting_28 : decode cX7_resting 28 = .ok (.ifCond .eq 6, 3) := by decide +kernel
theorem dX7_resting_31 : decode cX7_resting 31 = .ok (.iinc 1 1, 3) := by decide +kernel
theorem dX7_resting_34 : decode cX7_resting 34 = .ok (.iinc 3 1, 3) := by decide +kernel
theorem dX7_resting_37 : decode cX7_resting 37 = .ok (.goto (-23), 3) := by decide +kernel
theorem dX7_resting_40 : decode cX7_resting 40 = .ok (.iinc 2 1, 3) := by decide +kernel
theorem dX7_resting_43 : decode cX7_resting 43 = .ok (.goto (-39), 3) := by decide +kernel
theorem dX7_resting_46 : decode cX7_resting 46 = .ok (.iload_n 1, 1) := by decide +kernel
theorem dX7_resting_47 : decode cX7_resting 47 = .ok (.ireturn, 1) := by decide +kernel
theorem dX7_restingAt_0 : decode cX7_restingAt 0 = .ok (.iconst 0, 1) := by decide +kernel
theorem dX7_restingAt_1 : decode cX7_restingAt 1 = .ok (.istore_n 2, 1) := by decide +kernel
theorem dX7_restingAt_2 : decode cX7_restingAt 2 = .ok (.iconst 0, 1) := by decide +kernel
theorem dX7_restingAt_3 : decode cX7_restingAt 3 = .ok (.istore_n 3, 1) := by decide +kernel
theorem dX7_restingAt_4 : decode cX7_restingAt 4 = .ok (.iload_n 3, 1) := by decide +kernel
theorem dX7_restingAt_5 : decode cX7_restingAt 5 = .ok (.aload_n 0, 1) := by decide +kernel
theorem dX7_restingAt_6 : decode cX7_restingAt 6 = .ok (.getfield 27, 3) := by decide +kernel
theorem dX7_restingAt_9 : decode cX7_restingAt 9 = .ok (.if_icmp .ge 56, 3) := by decide +kernel
theorem dX7_restingAt_12 : decode cX7_restingAt 12 = .ok (.iconst 0, 1) := by decide +kernel
theorem dX7_restingAt_13 : decode cX7_restingAt 13 = .ok (.istore 4, 2) := by decide +kernel
theorem dX7_restingAt_15 : decode cX7_restingAt 15 = .ok (.iload 4, 2) := by decide +kernel
theorem dX7_restingAt_17 : decode cX7_restingAt 17 = .ok (.aload_n 0, 1) := by decide +kernel
theorem dX7_restingAt_18 : decode cX7_restingAt 18 = .ok (.getfield 31, 3) := by decide +kernel
theorem dX7_restingAt_21 : decode cX7_restingAt 21 = .ok (.if_icmp .ge 38, 3) := by decide +kernel
theorem dX7_restingAt_24 : decode cX7_restingAt 24 = .ok (.aload_n 0, 1) := by decide +kernel
theorem dX7_restingAt_25 : decode cX7_restingAt 25 = .ok (.iload_n 3, 1) := by decide +kernel
theorem dX7_restingAt_26 : decode cX7_restingAt 26 = .ok (.iload 4, 2) := by decide +kernel
theorem dX7_restingAt_28 : decode cX7_restingAt 28 = .ok (.invokevirtual 67, 3) := by decide +kernel
theorem dX7_restingAt_31 : decode cX7_restingAt 31 = .ok (.ifCond .ne 6, 3) := by decide +kernel
theorem dX7_restingAt_34 : decode cX7_restingAt 34 = .ok (.goto 19, 3) := by decide +kernel
theorem dX7_restingAt_37 : decode cX7_restingAt 37 = .ok (.iload_n 2, 1) := by decide +kernel
theorem dX7_restingAt_38 : decode cX7_restingAt 38 = .ok (.iload_n 1, 1) := by decide +kernel
theorem dX7_restingAt_39 : decode cX7_restingAt 39 = .ok (.if_icmp .ne 11, 3) := by decide +kernel
theorem dX7_restingAt_42 : decode cX7_restingAt 42 = .ok (.bipush 10, 2) := by decide +kernel
theorem dX7_restingAt_44 : decode cX7_restingAt 44 = .ok (.iload_n 3, 1) := by decide +kernel
theorem dX7_restingAt_45 : decode cX7_restingAt 45 = .ok (.imul, 1) := by decide +kernel
theorem dX7_restingAt_46 : decode cX7_restingAt 46 = .ok (.iload 4, 2) := by decide +kernel
theorem dX7_restingAt_48 : decode cX7_restingAt 48 = .ok (.iadd, 1) := by decide +kernel
theorem dX7_restingAt_49 : decode cX7_restingAt 49 = .ok (.ireturn, 1) := by decide +kernel
theorem dX7_restingAt_50 : decode cX7_restingAt 50 = .ok (.iinc 2 1, 3) := by decide +kernel
theorem dX7_restingAt_53 : decode cX7_restingAt 53 = .ok (.iinc 4 1, 3) := by decide +kernel
theorem dX7_restingAt_56 : decode cX7_restingAt 56 = .ok (.goto (-41), 3) := by decide +kernel
theorem dX7_restingAt_59 : decode cX7_restingAt 59 = .ok (.iinc 3 1, 3) := by decide +kernel
theorem dX7_restingAt_62 : decode cX7_restingAt 62 = .ok (.goto (-58), 3) := by decide +kernel
theorem dX7_restingAt_65 : decode cX7_restingAt 65 = .ok (.bipush (-5), 2) := by decide +kernel
theorem dX7_restingAt_67 : decode cX7_restingAt 67 = .ok (.ireturn, 1) := by decide +kernel
theorem dX8_init_0 : decode cX8_init 0 = .ok (.aload_n 0, 1) := by decide +kernel
theorem dX8_init_1 : decode cX8_init 1 = .ok (.invokespecial 3, 3) := by decide +kernel
theorem dX8_init_4 : decode cX8_init 4 = .ok (.aload_n 0, 1) := by decide +kernel
theorem dX8_init_5 : decode cX8_init 5 = .ok (.new 9, 3) := by decide +kernel
theorem dX8_init_8 : decode cX8_init 8 = .ok (.dup, 1) := by decide +kernel
theorem dX8_init_9 : decode cX8_init 9 = .ok (.invokespecial 11, 3) := by decide +kernel
theorem dX8_init_12 : decode cX8_init 12 = .ok (.putfield 12, 3) := by decide +kernel
theorem dX8_init_15 : decode cX8_init 15 = .ok (.aload_n 0, 1) := by decide +kernel
theorem dX8_init_16 : decode cX8_init 16 = .ok (.iconst 2, 1) := by decide +kernel
theorem dX8_init_17 : decode cX8_init 17 = .ok (.anewarray 9, 3) := by decide +kernel
theorem dX8_init_20 : decode cX8_init 20 = .ok (.dup, 1) := by decide +kernel
theorem dX8_init_21 : decode cX8_init 21 = .ok (.iconst 0, 1) := by decide +kernel
theorem dX8_init_22 : decode cX8_init 22 = .ok (.new 9, 3) := by decide +kernel
theorem dX8_init_25 : decode cX8_init 25 = .ok (.dup, 1) := by decide +kernel
theorem dX8_init_26 : decode cX8_init 26 = .ok (.invokespecial 11, 3) := by decide +kernel
theorem dX8_init_29 : decode cX8_init 29 = .ok (.aastore, 1) := by decide +kernel
theorem dX8_init_30 : decode cX8_init 30 = .ok (.dup, 1) := by decide +kernel
theorem dX8_init_31 : decode cX8_init 31 = .ok (.iconst 1, 1) := by decide +kernel
theorem dX8_init_32 : decode cX8_init 32 = .ok (.new 9, 3) := by decide +kernel
theorem dX8_init_35 : decode cX8_init 35 = .ok (.dup, 1) := by decide +kernel
theorem dX8_init_36 : decode cX8_init 36 = .ok (.invokespecial 11, 3) := by decide +kernel
theorem dX8_init_39 : decode cX8_init 39 = .ok (.aastore, 1) := by decide +kernel
theorem dX8_init_40 : decode cX8_init 40 = .ok (.putfield 16, 3) := by decide +kernel
theorem dX8_init_43 : decode cX8_init 43 = .ok (.aload_n 0, 1) := by decide +kernel
theorem dX8_init_44 : decode cX8_init 44 = .ok (.iconst 2, 1) := by decide +kernel
theorem dX8_init_45 : decode cX8_init 45 = .ok (.newarray .boolean, 2) := by decide +kernel
theorem dX8_init_47 : decode cX8_init 47 = .ok (.putfield 20, 3) := by decide +kernel
theorem dX8_init_50 : decode cX8_init 50 = .ok (.aload_n 0, 1) := by decide +kernel
theorem dX8_init_51 : decode cX8_init 51 = .ok (.new 24, 3) := by decide +kernel
theorem dX8_init_54 : decode cX8_init 54 = .ok (.dup, 1) := by decide +kernel
theorem dX8_init_55 : decode cX8_init 55 = .ok (.invokespecial 26, 3) := by decide +kernel
theorem dX8_init_58 : decode cX8_init 58 = .ok (.putfield 27, 3) := by decide +kernel
theorem dX8_init_61 : decode cX8_init 61 = .ok (.aload_n 0, 1) := by decide +kernel
theorem dX8_init_62 : decode cX8_init 62 = .ok (.new 31, 3) := by decide +kernel
theorem dX8_init_65 : decode cX8_init 65 = .ok (.dup, 1) := by decide +kernel
theorem dX8_init_66 : decode cX8_init 66 = .ok (.invokespecial 33, 3) := by decide +kernel
theorem dX8_init_69 : decode cX8_init 69 = .ok (.putfield 34, 3) := by decide +kernel
theorem dX8_init_72 : decode cX8_init 72 = .ok (.aload_n 0, 1) := by decide +kernel
theorem dX8_init_73 : decode cX8_init 73 = .ok (.new 38, 3) := by decide +kernel
theorem dX8_init_76 : decode cX8_init 76 = .ok (.dup, 1) := by decide +kernel
theorem dX8_init_77 : decode cX8_init 77 = .ok (.invokespecial 40, 3) := by decide +kernel
theorem dX8_init_80 : decode cX8_init 80 = .ok (.putfield 41, 3) := by decide +kernel
theorem dX8_init_83 : decode cX8_init 83 = .ok (.aload_n 0, 1) := by decide +kernel
theorem dX8_init_84 : decode cX8_init 84 = .ok (.new 45, 3) := by decide +kernel
theorem dX8_init_87 : decode cX8_init 87 = .ok (.dup, 1) := by decide +kernel
theorem dX8_init_88 : decode cX8_init 88 = .ok (.invokespecial 47, 3) := by decide +kernel
theorem dX8_init_91 : decode cX8_init 91 = .ok (.putfield 48, 3) := by decide +kernel
theorem dX8_init_94 : decode cX8_init 94 = .ok (.aload_n 0, 1) := by decide +kernel
theorem dX8_init_95 : decode cX8_init 95 = .ok (.new 52, 3) := by decide +kernel
theorem dX8_init_98 : decode cX8_init 98 = .ok (.dup, 1) := by decide +kernel
theorem dX8_init_99 : decode cX8_init 99 = .ok (.invokespecial 54, 3) := by decide +kernel
theorem dX8_init_102 : decode cX8_init 102 = .ok (.putfield 55, 3) := by decide +kernel
theorem dX8_init_105 : decode cX8_init 105 = .ok (.aload_n 0, 1) := by decide +kernel
theorem dX8_init_106 : decode cX8_init 106 = .ok (.new 59, 3) := by decide +kernel
theorem dX8_init_109 : decode cX8_init 109 = .ok (.dup, 1) := by decide +kernel
theorem dX8_init_110 : decode cX8_init 110 = .ok (.invokespecial 61, 3) := by decide +kernel
theorem dX8_init_113 : decode cX8_init 113 = .ok (.putfield 62, 3) := by decide +kernel
theorem dX8_init_116 : decode cX8_init 116 = .ok (.return_, 1) := by decide +kernel
theorem dX8_bus_0 : decode cX8_bus 0 = .ok (.iload_n 1, 1) := by decide +kernel
theorem dX8_bus_1 : decode cX8_bus 1 = .ok (.iconst 1, 1) := by decide +kernel
theorem dX8_bus_2 : decode cX8_bus 2 = .ok (.bipush 7, 2) := by decide +kernel
theorem dX8_bus_4 : decode cX8_bus 4 = .ok (.invokestatic 66, 3) := by decide +kernel
theorem dX8_bus_7 : decode cX8_bus 7 = .ok (.ifCond .ne 8, 3) := by decide +kernel
theorem dX8_bus_10 : decode cX8_bus 10 = .ok (.aload_n 0, 1) := by decide +kernel
theorem dX8_bus_11 : decode cX8_bus 11 = .ok (.invokevirtual 70, 3) := by decide +kernel
theorem dX8_bus_14 : decode cX8_bus 14 = .ok (.ireturn, 1) := by decide +kernel
theorem dX8_bus_15 : decode cX8_bus 15 = .ok (.aload_n 0, 1) := by decide +kernel
theorem dX8_bus_16 : decode cX8_bus 16 = .ok (.getfield 12, 3) := by decide +kernel
theorem dX8_bus_19 : decode cX8_bus 19 = .ok (.getfield 74, 3) := by decide +kernel
theorem dX8_bus_22 : decode cX8_bus 22 = .ok (.istore_n 2, 1) := by decide +kernel
theorem dX8_bus_23 : decode cX8_bus 23 = .ok (.aload_n 0, 1) := by decide +kernel
theorem dX8_bus_24 : decode cX8_bus 24 = .ok (.getfield 12, 3) := by decide +kernel
theorem dX8_bus_27 : decode cX8_bus 27 = .ok (.invokevirtual 78, 3) := by decide +kernel
theorem dX8_bus_30 : decode cX8_bus 30 = .ok (.aload_n 0, 1) := by decide +kernel
theorem dX8_bus_31 : decode cX8_bus 31 = .ok (.getfield 12, 3) := by decide +kernel
theorem dX8_bus_34 : decode cX8_bus 34 = .ok (.iload_n 1, 1) := by decide +kernel
theorem dX8_bus_35 : decode cX8_bus 35 = .ok (.putfield 81, 3) := by decide +kernel
theorem dX8_bus_38 : decode cX8_bus 38 = .ok (.iload_n 2, 1) := by decide +kernel
theorem dX8_bus_39 : decode cX8_bus 39 = .ok (.ireturn, 1) := by decide +kernel
theorem dX8_room_0 : decode cX8_room 0 = .ok (.iload_n 1, 1) := by decide +kernel
theorem dX8_room_1 : decode cX8_room 1 = .ok (.iconst 1, 1) := by decide +kernel
theorem dX8_room_2 : decode cX8_room 2 = .ok (.bipush 7, 2) := by decide +kernel
theorem dX8_room_4 : decode cX8_room 4 = .ok (.invokestatic 66, 3) := by decide +kernel
theorem dX8_room_7 : decode cX8_room 7 = .ok (.ifCond .ne 8, 3) := by decide +kernel
theorem dX8_room_10 : decode cX8_room 10 = .ok (.aload_n 0, 1) := by decide +kernel
theorem dX8_room_11 : decode cX8_room 11 = .ok (.invokevirtual 70, 3) := by decide +kernel
theorem dX8_room_14 : decode cX8_room 14 = .ok (.ireturn, 1) := by decide +kernel
theorem dX8_room_15 : decode cX8_room 15 = .ok (.aload_n 0, 1) := by decide +kernel
theorem dX8_room_16 : decode cX8_room 16 = .ok (.getfield 12, 3) := by decide +kernel
theorem dX8_room_19 : decode cX8_room 19 = .ok (.getfield 81, 3) := by decide +kernel
theorem dX8_room_22 : decode cX8_room 22 = .ok (.istore_n 2, 1) := by decide +kernel
theorem dX8_room_23 : decode cX8_room 23 = .ok (.aload_n 0, 1) := by decide +kernel
theorem dX8_room_24 : decode cX8_room 24 = .ok (.getfield 12, 3) := by decide +kernel
theorem dX8_room_27 : decode cX8_room 27 = .ok (.iload_n 1, 1) := by decide +kernel
theorem dX8_room_28 : decode cX8_room 28 = .ok (.putfield 81, 3) := by decide +kernel
theorem dX8_room_31 : decode cX8_room 31 = .ok (.aload_n 0, 1) := by decide +kernel
theorem dX8_room_32 : decode cX8_room 32 = .ok (.getfield 12, 3) := by decide +kernel
theorem dX8_room_35 : decode cX8_room 35 = .ok (.iconst 0, 1) := by decide +kernel
theorem dX8_room_36 : decode cX8_room 36 = .ok (.putfield 84, 3) := by decide +kernel
theorem dX8_room_39 : decode cX8_room 39 = .ok (.iload_n 2, 1) := by decide +kernel
theorem dX8_room_40 : decode cX8_room 40 = .ok (.ireturn, 1) := by decide +kernel
theorem dX8_bridge_0 : decode cX8_bridge 0 = .ok (.iload_n 1, 1) := by decide +kernel
theorem dX8_bridge_1 : decode cX8_bridge 1 = .ok (.iconst 0, 1) := by decide +kernel
theorem dX8_bridge_2 : decode cX8_bridge 2 = .ok (.bipush 9, 2) := by decide +kernel
theorem dX8_bridge_4 : decode cX8_bridge 4 = .ok (.invokestatic 66, 3) := by decide +kernel
theorem dX8_bridge_7 : decode cX8_bridge 7 = .ok (.ifCond .eq 13, 3) := by decide +kernel
theorem dX8_bridge_10 : decode cX8_bridge 10 = .ok (.iload_n 2, 1) := by decide +kernel
theorem dX8_bridge_11 : decode cX8_bridge 11 = .ok (.iconst 0, 1) := by decide +kernel
theorem dX8_bridge_12 : decode cX8_bridge 12 = .ok (.bipush 9, 2) := by decide +kernel
theorem dX8_bridge_14 : decode cX8_bridge 14 = .ok (.invokestatic 66, 3) := by decide +kernel
theorem dX8_bridge_17 : decode cX8_bridge 17 = .ok (.ifCond .ne 8, 3) := by decide +kernel
theorem dX8_bridge_20 : decode cX8_bridge 20 = .ok (.aload_n 0, 1) := by decide +kernel
theorem dX8_bridge_21 : decode cX8_bridge 21 = .ok (.invokevirtual 70, 3) := by decide +kernel
theorem dX8_bridge_24 : decode cX8_bridge 24 = .ok (.ireturn, 1) := by decide +kernel
theorem dX8_bridge_25 : decode cX8_bridge 25 = .ok (.aload_n 0, 1) := by decide +kernel
theorem dX8_bridge_26 : decode cX8_bridge 26 = .ok (.getfield 12, 3) := by decide +kernel
theorem dX8_bridge_29 : decode cX8_bridge 29 = .ok (.getfield 87, 3) := by decide +kernel
theorem dX8_bridge_32 : decode cX8_bridge 32 = .ok (.iload_n 1, 1) := by decide +kernel
theorem dX8_bridge_33 : decode cX8_bridge 33 = .ok (.iaload, 1) := by decide +kernel
theorem dX8_bridge_34 : decode cX8_bridge 34 = .ok (.istore_n 3, 1) := by decide +kernel
theorem dX8_bridge_35 : decode cX8_bridge 35 = .ok (.aload_n 0, 1) := by decide +kernel
theorem dX8_bridge_36 : decode cX8_bridge 36 = .ok (.getfield 12, 3) := by decide +kernel
theorem dX8_bridge_39 : decode cX8_bridge 39 = .ok (.getfield 87, 3) := by decide +kernel
theorem dX8_bridge_42 : decode cX8_bridge 42 = .ok (.iload_n 1, 1) := by decide +kernel
theorem dX8_bridge_43 : decode cX8_bridge 43 = .ok (.iload_n 2, 1) := by decide +kernel
theorem dX8_bridge_44 : decode cX8_bridge 44 = .ok (.iastore, 1) := by decide +kernel
theorem dX8_bridge_45 : decode cX8_bridge 45 = .ok (.aload_n 0, 1) := by decide +kernel
theorem dX8_bridge_46 : decode cX8_bridge 46 = .ok (.getfield 12, 3) := by decide +kernel
theorem dX8_bridge_49 : decode cX8_bridge 49 = .ok (.iconst 0, 1) := by decide +kernel
theorem dX8_bridge_50 : decode cX8_bridge 50 = .ok (.putfield 84, 3) := by decide +kernel
theorem dX8_bridge_53 : decode cX8_bridge 53 = .ok (.iload_n 3, 1) := by decide +kernel
theorem dX8_bridge_54 : decode cX8_bridge 54 = .ok (.ireturn, 1) := by decide +kernel
theorem dX8_idea_0 : decode cX8_idea 0 = .ok (.iload_n 1, 1) := by decide +kernel
theorem dX8_idea_1 : decode cX8_idea 1 = .ok (.iconst 0, 1) := by decide +kernel
theorem dX8_idea_2 : decode cX8_idea 2 = .ok (.iconst 5, 1) := by decide +kernel
theorem dX8_idea_3 : decode cX8_idea 3 = .ok (.invokestatic 66, 3) := by decide +kernel
theorem dX8_idea_6 : decode cX8_idea 6 = .ok (.ifCond .eq 13, 3) := by decide +kernel
theorem dX8_idea_9 : decode cX8_idea 9 = .ok (.iload_n 2, 1) := by decide +kernel
theorem dX8_idea_10 : decode cX8_idea 10 = .ok (.iconst 1, 1) := by decide +kernel
theorem dX8_idea_11 : decode cX8_idea 11 = .ok (.bipush 9, 2) := by decide +kernel
theorem dX8_idea_13 : decode cX8_idea 13 = .ok (.invokestatic 66, 3) := by decide +kernel
theorem dX8_idea_16 : decode cX8_idea 16 = .ok (.ifCond .ne 8, 3) := by decide +kernel
theorem dX8_idea_19 : decode cX8_idea 19 = .ok (.aload_n 0, 1) := by decide +kernel
theorem dX8_idea_20 : decode cX8_idea 20 = .ok (.invokevirtual 70, 3) := by decide +kernel
theorem dX8_idea_23 : decode cX8_idea 23 = .ok (.ireturn, 1) := by decide +kernel
theorem dX8_idea_24 : decode cX8_idea 24 = .ok (.iload_n 3, 1) := by decide +kernel
theorem dX8_idea_25 : decode cX8_idea 25 = .ok (.iconst 0, 1) := by decide +kernel
theorem dX8_idea_26 : decode cX8_idea 26 = .ok (.bipush 8, 2) := by decide +kernel
theorem dX8_idea_28 : decode cX8_idea 28 = .ok (.invokestatic 66, 3) := by decide +kernel
theorem dX8_idea_31 : decode cX8_idea 31 = .ok (.ifCond .eq 16, 3) := by decide +kernel
theorem dX8_idea_34 : decode cX8_idea 34 = .ok (.iload 4, 2) := by decide +kernel
theorem dX8_idea_36 : decode cX8_idea 36 = .ok (.iload_n 3, 1) := by decide +kernel
theorem dX8_idea_37 : decode cX8_idea 37 = .ok (.iconst 1, 1) := by decide +kernel
theorem dX8_idea_38 : decode cX8_idea 38 = .ok (.iadd, 1) := by decide +kernel
theorem dX8_idea_39 : decode cX8_idea 39 = .ok (.bipush 9, 2) := by decide +kernel
theorem dX8_idea_41 : decode cX8_idea 41 = .ok (.invokestatic 66, 3) := by decide +kernel
theorem dX8_idea_44 : decode cX8_idea 44 = .ok (.ifCond .ne 8, 3) := by decide +kernel
theorem dX8_idea_47 : decode cX8_idea 47 = .ok (.aload_n 0, 1) := by decide +kernel
theorem dX8_idea_48 : decode cX8_idea 48 = .ok (.invokevirtual 70, 3) := by decide +kernel
theorem dX8_idea_51 : decode cX8_idea 51 = .ok (.ireturn, 1) := by decide +kernel
theorem dX8_idea_52 : decode cX8_idea 52 = .ok (.aload_n 0, 1) := by decide +kernel
theorem dX8_idea_53 : decode cX8_idea 53 = .ok (.getfield 12, 3) := by decide +kernel
theorem dX8_idea_56 : decode cX8_idea 56 = .ok (.getfield 74, 3) := by decide +kernel
theorem dX8_idea_59 : decode cX8_idea 59 = .ok (.bipush 7, 2) := by decide +kernel
theorem dX8_idea_61 : decode cX8_idea 61 = .ok (.if_icmp .lt 8, 3) := by decide +kernel
theorem dX8_idea_64 : decode cX8_idea 64 = .ok (.aload_n 0, 1) := by decide +kernel
theorem dX8_idea_65 : decode cX8_idea 65 = .ok (.invokevirtual 91, 3) := by decide +kernel
theorem dX8_idea_68 : decode cX8_idea 68 = .ok (.ireturn, 1) := by decide +kernel
theorem dX8_idea_69 : decode cX8_idea 69 = .ok (.aload_n 0, 1) := by decide +kernel
theorem dX8_idea_70 : decode cX8_idea 70 = .ok (.getfield 12, 3) := by decide +kernel
theorem dX8_idea_73 : decode cX8_idea 73 = .ok (.iload_n 1, 1) := by decide +kernel
theorem dX8_idea_74 : decode cX8_idea 74 = .ok (.iload_n 2, 1) := by decide +kernel
theorem dX8_idea_75 : decode cX8_idea 75 = .ok (.iload_n 3, 1) := by decide +kernel
theorem dX8_idea_76 : decode cX8_idea 76 = .ok (.iload 4, 2) := by decide +kernel
theorem dX8_idea_78 : decode cX8_idea 78 = .ok (.invokevirtual 94, 3) := by decide +kernel
theorem dX8_idea_81 : decode cX8_idea 81 = .ok (.aload_n 0, 1) := by decide +kernel
theorem dX8_idea_82 : decode cX8_idea 82 = .ok (.getfield 12, 3) := by decide +kernel
theorem dX8_idea_85 : decode cX8_idea 85 = .ok (.iconst 0, 1) := by decide +kernel
theorem dX8_idea_86 : decode cX8_idea 86 = .ok (.putfield 84, 3) := by decide +kernel
theorem dX8_idea_89 : decode cX8_idea 89 = .ok (.aload_n 0, 1) := by decide +kernel
theorem dX8_idea_90 : decode cX8_idea 90 = .ok (.getfield 12, 3) := by decide +kernel
theorem dX8_idea_93 : decode cX8_idea 93 = .ok (.getfield 74, 3) := by decide +kernel
theorem dX8_idea_96 : decode cX8_idea 96 = .ok (.iconst 1, 1) := by decide +kernel
theorem dX8_idea_97 : decode cX8_idea 97 = .ok (.isub, 1) := by decide +kernel
theorem dX8_idea_98 : decode cX8_idea 98 = .ok (.ireturn, 1) := by decide +kernel
theorem dX8_quarrel_0 : decode cX8_quarrel 0 = .ok (.aload_n 0, 1) := by decide +kernel
theorem dX8_quarrel_1 : decode cX8_quarrel 1 = .ok (.getfield 12, 3) := by decide +kernel
theorem dX8_quarrel_4 : decode cX8_quarrel 4 = .ok (.iload_n 1, 1) := by decide +kernel
theorem dX8_quarrel_5 : decode cX8_quarrel 5 = .ok (.iload_n 2, 1) := by decide +kernel
theorem dX8_quarrel_6 : decode cX8_quarrel 6 = .ok (.invokevirtual 98, 3) := by decide +kernel
theorem dX8_quarrel_9 : decode cX8_quarrel 9 = .ok (.ifCond .eq 12, 3) := by decide +kernel
theorem dX8_quarrel_12 : decode cX8_quarrel 12 = .ok (.iload_n 3, 1) := by decide +kernel
theorem dX8_quarrel_13 : decode cX8_quarrel 13 = .ok (.iconst 0, 1) := by decide +kernel
theorem dX8_quarrel_14 : decode cX8_quarrel 14 = .ok (.iconst 1, 1) := by decide +kernel
theorem dX8_quarrel_15 : decode cX8_quarrel 15 = .ok (.invokestatic 66, 3) := by decide +kernel
theorem dX8_quarrel_18 : decode cX8_quarrel 18 = .ok (.ifCond .ne 8, 3) := by decide +kernel
theorem dX8_quarrel_21 : decode cX8_quarrel 21 = .ok (.aload_n 0, 1) := by decide +kernel
theorem dX8_quarrel_22 : decode cX8_quarrel 22 = .ok (.invokevirtual 70, 3) := by decide +kernel
theorem dX8_quarrel_25 : decode cX8_quarrel 25 = .ok (.ireturn, 1) := by decide +kernel
theorem dX8_quarrel_26 : decode cX8_quarrel 26 = .ok (.aload_n 0, 1) := by decide +kernel
theorem dX8_quarrel_27 : decode cX8_quarrel 27 = .ok (.getfield 12, 3) := by decide +kernel
theorem dX8_quarrel_30 : decode cX8_quarrel 30 = .ok (.getfield 102, 3) := by decide +kernel
theorem dX8_quarrel_33 : decode cX8_quarrel 33 = .ok (.iload_n 1, 1) := by decide +kernel
theorem dX8_quarrel_34 : decode cX8_quarrel 34 = .ok (.iaload, 1) := by decide +kernel
theorem dX8_quarrel_35 : decode cX8_quarrel 35 = .ok (.iload_n 2, 1) := by decide +kernel
theorem dX8_quarrel_36 : decode cX8_quarrel 36 = .ok (.invokestatic 105, 3) := by decide +kernel
theorem dX8_quarrel_39 : decode cX8_quarrel 39 = .ok (.istore 4, 2) := by decide +kernel
theorem dX8_quarrel_41 : decode cX8_quarrel 41 = .ok (.aload_n 0, 1) := by decide +kernel
theorem dX8_quarrel_42 : decode cX8_quarrel 42 = .ok (.getfield 12, 3) := by decide +kernel
theorem dX8_quarrel_45 : decode cX8_quarrel 45 = .ok (.iload_n 1, 1) := by decide +kernel
theorem dX8_quarrel_46 : decode cX8_quarrel 46 = .ok (.iload_n 2, 1) := by decide +kernel
theorem dX8_quarrel_47 : decode cX8_quarrel 47 = .ok (.iload_n 3, 1) := by decide +kernel
theorem dX8_quarrel_48 : decode cX8_quarrel 48 = .ok (.iconst 1, 1) := by decide +kernel
theorem dX8_quarrel_49 : decode cX8_quarrel 49 = .ok (.if_icmp .ne 7, 3) := by decide +kernel
theorem dX8_quarrel_52 : decode cX8_quarrel 52 = .ok (.iconst 1, 1) := by decide +kernel
theorem dX8_quarrel_53 : decode cX8_quarrel 53 = .ok (.goto 4, 3) := by decide +kernel
theorem dX8_quarrel_56 : decode cX8_quarrel 56 = .ok (.iconst 0, 1) := by decide +kernel
theorem dX8_quarrel_57 : decode cX8_quarrel 57 = .ok (.invokevirtual 109, 3) := by decide +kernel
theorem dX8_quarrel_60 : decode cX8_quarrel 60 = .ok (.aload_n 0, 1) := by decide +kernel
theorem dX8_quarrel_61 : decode cX8_quarrel 61 = .ok (.getfield 12, 3) := by decide +kernel
theorem dX8_quarrel_64 : decode cX8_quarrel 64 = .ok (.iconst 0, 1) := by decide +kernel
theorem dX8_quarrel_65 : decode cX8_quarrel 65 = .ok (.putfield 84, 3) := by decide +kernel
theorem dX8_quarrel_68 : decode cX8_quarrel 68 = .ok (.iload 4, 2) := by decide +kernel
theorem dX8_quarrel_70 : decode cX8_quarrel 70 = .ok (.ireturn, 1) := by decide +kernel
theorem dX8_type_0 : decode cX8_type 0 = .ok (.iload_n 1, 1) := by decide +kernel
theorem dX8_type_1 : decode cX8_type 1 = .ok (.iconst 0, 1) := by decide +kernel
theorem dX8_type_2 : decode cX8_type 2 = .ok (.bipush 127, 2) := by decide +kernel
theorem dX8_type_4 : decode cX8_type 4 = .ok (.invokestatic 66, 3) := by decide +kernel
theorem dX8_type_7 : decode cX8_type 7 = .ok (.ifCond .ne 8, 3) := by decide +kernel
theorem dX8_type_10 : decode cX8_type 10 = .ok (.aload_n 0, 1) := by decide +kernel
theorem dX8_type_11 : decode cX8_type 11 = .ok (.invokevirtual 70, 3) := by decide +kernel
theorem dX8_type_14 : decode cX8_type 14 = .ok (.ireturn, 1) := by decide +kernel
theorem dX8_type_15 : decode cX8_type 15 = .ok (.aload_n 0, 1) := by decide +kernel
theorem dX8_type_16 : decode cX8_type 16 = .ok (.getfield 62, 3) := by decide +kernel
theorem dX8_type_19 : decode cX8_type 19 = .ok (.getfield 113, 3) := by decide +kernel
theorem dX8_type_22 : decode cX8_type 22 = .ok (.sipush 150, 3) := by decide +kernel
theorem dX8_type_25 : decode cX8_type 25 = .ok (.if_icmp .lt 8, 3) := by decide +kernel
theorem dX8_type_28 : decode cX8_type 28 = .ok (.aload_n 0, 1) := by decide +kernel
theorem dX8_type_29 : decode cX8_type 29 = .ok (.invokevirtual 91, 3) := by decide +kernel
theorem dX8_type_32 : decode cX8_type 32 = .ok (.ireturn, 1) := by decide +kernel
theorem dX8_type_33 : decode cX8_type 33 = .ok (.aload_n 0, 1) := by decide +kernel
theorem dX8_type_34 : decode cX8_type 34 = .ok (.getfield 62, 3) := by decide +kernel
theorem dX8_type_37 : decode cX8_type 37 = .ok (.iload_n 1, 1) := by decide +kernel
theorem dX8_type_38 : decode cX8_type 38 = .ok (.invokevirtual 116, 3) := by decide +kernel
theorem dX8_type_41 : decode cX8_type 41 = .ok (.aload_n 0, 1) := by decide +kernel
theorem dX8_type_42 : decode cX8_type 42 = .ok (.getfield 62, 3) := by decide +kernel
theorem dX8_type_45 : decode cX8_type 45 = .ok (.getfield 113, 3) := by decide +kernel
theorem dX8_type_48 : decode cX8_type 48 = .ok (.ireturn, 1) := by decide +kernel
theorem dX8_clear_0 : decode cX8_clear 0 = .ok (.aload_n 0, 1) := by decide +kernel
theorem dX8_clear_1 : decode cX8_clear 1 = .ok (.getfield 62, 3) := by decide +kernel
theorem dX8_clear_4 : decode cX8_clear 4 = .ok (.getfield 113, 3) := by decide +kernel
theorem dX8_clear_7 : decode cX8_clear 7 = .ok (.istore_n 1, 1) := by decide +kernel
theorem dX8_clear_8 : decode cX8_clear 8 = .ok (.aload_n 0, 1) := by decide +kernel
theorem dX8_clear_9 : decode cX8_clear 9 = .ok (.getfield 62, 3) := by decide +kernel
theorem dX8_clear_12 : decode cX8_clear 12 = .ok (.iconst 0, 1) := by decide +kernel
theorem dX8_clear_13 : decode cX8_clear 13 = .ok (.putfield 113, 3) := by decide +kernel
theorem dX8_clear_16 : decode cX8_clear 16 = .ok (.iload_n 1, 1) := by decide +kernel
theorem dX8_clear_17 : decode cX8_clear 17 = .ok (.ireturn, 1) := by decide +kernel
theorem dX8_read_0 : decode cX8_read 0 = .ok (.aload_n 0, 1) := by decide +kernel
theorem dX8_read_1 : decode cX8_read 1 = .ok (.getfield 62, 3) := by decide +kernel
theorem dX8_read_4 : decode cX8_read 4 = .ok (.invokevirtual 120, 3) := by decide +kernel
theorem dX8_read_7 : decode cX8_read 7 = .ok (.ifCond .ne 14, 3) := by decide +kernel
theorem dX8_read_10 : decode cX8_read 10 = .ok (.bipush (-10), 2) := by decide +kernel
theorem dX8_read_12 : decode cX8_read 12 = .ok (.aload_n 0, 1) := by decide +kernel
theorem dX8_read_13 : decode cX8_read 13 = .ok (.getfield 62, 3) := by decide +kernel
theorem dX8_read_16 : decode cX8_read 16 = .ok (.getfield 124, 3) := by decide +kernel
theorem dX8_read_19 : decode cX8_read 19 = .ok (.isub, 1) := by decide +kernel
theorem dX8_read_20 : decode cX8_read 20 = .ok (.ireturn, 1) := by decide +kernel
theorem dX8_read_21 : decode cX8_read 21 = .ok (.aload_n 0, 1) := by decide +kernel
theorem dX8_read_22 : decode cX8_read 22 = .ok (.getfield 12, 3) := by decide +kernel
theorem dX8_read_25 : decode cX8_read 25 = .ok (.aload_n 0, 1) := by decide +kernel
theorem dX8_read_26 : decode cX8_read 26 = .ok (.getfield 62, 3) := by decide +kernel
theorem dX8_read_29 : decode cX8_read 29 = .ok (.getfield 127, 3) := by decide +kernel
theorem dX8_read_32 : decode cX8_read 32 = .ok (.invokevirtual 130, 3) := by decide +kernel
theorem dX8_read_35 : decode cX8_read 35 = .ok (.aload_n 0, 1) := by decide +kernel
theorem dX8_read_36 : decode cX8_read 36 = .ok (.getfield 62, 3) := by decide +kernel
theorem dX8_read_39 : decode cX8_read 39 = .ok (.getfield 134, 3) := by decide +kernel
theorem dX8_read_42 : decode cX8_read 42 = .ok (.ireturn, 1) := by decide +kernel
theorem dX8_drive_0 : decode cX8_drive 0 = .ok (.iload_n 1, 1) := by decide +kernel
theorem dX8_drive_1 : decode cX8_drive 1 = .ok (.iconst 1, 1) := by decide +kernel
theorem dX8_drive_2 : decode cX8_drive 2 = .ok (.bipush 10, 2) := by decide +kernel
theorem dX8_drive_4 : decode cX8_drive 4 = .ok (.invokestatic 66, 3) := by decide +kernel
theorem dX8_drive_7 : decode cX8_drive 7 = .ok (.ifCond .ne 8, 3) := by decide +kernel
theorem dX8_drive_10 : decode cX8_drive 10 = .ok (.aload_n 0, 1) := by decide +kernel
theorem dX8_drive_11 : decode cX8_drive 11 = .ok (.invokevirtual 70, 3) := by decide +kernel
theorem dX8_drive_14 : decode cX8_drive 14 = .ok (.ireturn, 1) := by decide +kernel
theorem dX8_drive_15 : decode cX8_drive 15 = .ok (.iload_n 1, 1) := by decide +kernel
theorem dX8_drive_16 : decode cX8_drive 16 = .ok (.bipush 10, 2) := by decide +kernel
theorem dX8_drive_18 : decode cX8_drive 18 = .ok (.aload_n 0, 1) := by decide +kernel
theorem dX8_drive_19 : decode cX8_drive 19 = .ok (.getfield 12, 3) := by decide +kernel
theorem dX8_drive_22 : decode cX8_drive 22 = .ok (.getfield 137, 3) := by decide +kernel
theorem dX8_drive_25 : decode cX8_drive 25 = .ok (.getfield 141, 3) := by decide +kernel
theorem dX8_drive_28 : decode cX8_drive 28 = .ok (.isub, 1) := by decide +kernel
theorem dX8_drive_29 : decode cX8_drive 29 = .ok (.if_icmp .le 8, 3) := by decide +kernel
theorem dX8_drive_32 : decode cX8_drive 32 = .ok (.aload_n 0, 1) := by decide +kernel
theorem dX8_drive_33 : decode cX8_drive 33 = .ok (.invokevirtual 146, 3) := by decide +kernel
theorem dX8_drive_36 : decode cX8_drive 36 = .ok (.ireturn, 1) := by decide +kernel
theorem dX8_drive_37 : decode cX8_drive 37 = .ok (.aload_n 0, 1) := by decide +kernel
theorem dX8_drive_38 : decode cX8_drive 38 = .ok (.getfield 12, 3) := by decide +kernel
theorem dX8_drive_41 : decode cX8_drive 41 = .ok (.getfield 137, 3) := by decide +kernel
theorem dX8_drive_44 : decode cX8_drive 44 = .ok (.getfield 149, 3) := by decide +kernel
theorem dX8_drive_47 : decode cX8_drive 47 = .ok (.istore_n 2, 1) := by decide +kernel
theorem dX8_drive_48 : decode cX8_drive 48 = .ok (.aload_n 0, 1) := by decide +kernel
theorem dX8_drive_49 : decode cX8_drive 49 = .ok (.getfield 12, 3) := by decide +kernel
theorem dX8_drive_52 : decode cX8_drive 52 = .ok (.invokevirtual 152, 3) := by decide +kernel
theorem dX8_drive_55 : decode cX8_drive 55 = .ok (.iconst 0, 1) := by decide +kernel
theorem dX8_drive_56 : decode cX8_drive 56 = .ok (.istore_n 3, 1) := by decide +kernel
theorem dX8_drive_57 : decode cX8_drive 57 = .ok (.iload_n 3, 1) := by decide +kernel
theorem dX8_drive_58 : decode cX8_drive 58 = .ok (.iload_n 1, 1) := by decide +kernel
theorem dX8_drive_59 : decode cX8_drive 59 = .ok (.if_icmp .ge 31, 3) := by decide +kernel
theorem dX8_drive_62 : decode cX8_drive 62 = .ok (.aload_n 0, 1) := by decide +kernel
theorem dX8_drive_63 : decode cX8_drive 63 = .ok (.getfield 12, 3) := by decide +kernel
theorem dX8_drive_66 : decode cX8_drive 66 = .ok (.aload_n 0, 1) := by decide +kernel
theorem dX8_drive_67 : decode cX8_drive 67 = .ok (.getfield 12, 3) := by decide +kernel
theorem dX8_drive_70 : decode cX8_drive 70 = .ok (.getfield 137, 3) := by decide +kernel
theorem dX8_drive_73 : decode cX8_drive 73 = .ok (.aload_n 0, 1) := by decide +kernel
theorem dX8_drive_74 : decode cX8_drive 74 = .ok (.getfield 12, 3) := by decide +kernel
theorem dX8_drive_77 : decode cX8_drive 77 = .ok (.getfield 155, 3) := by decide +kernel
theorem dX8_drive_80 : decode cX8_drive 80 = .ok (.iconst 0, 1) := by decide +kernel
theorem dX8_drive_81 : decode cX8_drive 81 = .ok (.invokevirtual 158, 3) := by decide +kernel
theorem dX8_drive_84 : decode cX8_drive 84 = .ok (.iinc 3 1, 3) := by decide +kernel
theorem dX8_drive_87 : decode cX8_drive 87 = .ok (.goto (-30), 3) := by decide +kernel
theorem dX8_drive_90 : decode cX8_drive 90 = .ok (.aload_n 0, 1) := by decide +kernel
theorem dX8_drive_91 : decode cX8_drive 91 = .ok (.getfield 12, 3) := by decide +kernel
theorem dX8_drive_94 : decode cX8_drive 94 = .ok (.getfield 137, 3) := by decide +kernel
theorem dX8_drive_97 : decode cX8_drive 97 = .ok (.getfield 149, 3) := by decide +kernel
theorem dX8_drive_100 : decode cX8_drive 100 = .ok (.iload_n 2, 1) := by decide +kernel
theorem dX8_drive_101 : decode cX8_drive 101 = .ok (.isub, 1) := by decide +kernel
theorem dX8_drive_102 : decode cX8_drive 102 = .ok (.ireturn, 1) := by decide +kernel
theorem dX8_puts_0 : decode cX8_puts 0 = .ok (.aload_n 0, 1) := by decide +kernel
theorem dX8_puts_1 : decode cX8_puts 1 = .ok (.getfield 12, 3) := by decide +kernel
theorem dX8_puts_4 : decode cX8_puts 4 = .ok (.iload_n 1, 1) := by decide +kernel
theorem dX8_puts_5 : decode cX8_puts 5 = .ok (.invokevirtual 162, 3) := by decide +kernel
theorem dX8_puts_8 : decode cX8_puts 8 = .ok (.ifCond .ne 8, 3) := by decide +kernel
theorem dX8_puts_11 : decode cX8_puts 11 = .ok (.aload_n 0, 1) := by decide +kernel
theorem dX8_puts_12 : decode cX8_puts 12 = .ok (.invokevirtual 70, 3) := by decide +kernel
theorem dX8_puts_15 : decode cX8_puts 15 = .ok (.ireturn, 1) := by decide +kernel
theorem dX8_puts_16 : decode cX8_puts 16 = .ok (.aload_n 0, 1) := by decide +kernel
theorem dX8_puts_17 : decode cX8_puts 17 = .ok (.getfield 12, 3) := by decide +kernel
theorem dX8_puts_20 : decode cX8_puts 20 = .ok (.getfield 137, 3) := by decide +kernel
theorem dX8_puts_23 : decode cX8_puts 23 = .ok (.getfield 166, 3) := by decide +kernel
theorem dX8_puts_26 : decode cX8_puts 26 = .ok (.iload_n 1, 1) := by decide +kernel
theorem dX8_puts_27 : decode cX8_puts 27 = .ok (.invokestatic 105, 3) := by decide +kernel
theorem dX8_puts_30 : decode cX8_puts 30 = .ok (.ifCond .ne 8, 3) := by decide +kernel
theorem dX8_puts_33 : decode cX8_puts 33 = .ok (.aload_n 0, 1) := by decide +kernel
theorem dX8_puts_34 : decode cX8_puts 34 = .ok (.invokevirtual 146, 3) := by decide +kernel
theorem dX8_puts_37 : decode cX8_puts 37 = .ok (.ireturn, 1) := by decide +kernel
theorem dX8_puts_38 : decode cX8_puts 38 = .ok (.aload_n 0, 1) := by decide +kernel
theorem dX8_puts_39 : decode cX8_puts 39 = .ok (.getfield 12, 3) := by decide +kernel
theorem dX8_puts_42 : decode cX8_puts 42 = .ok (.invokevirtual 152, 3) := by decide +kernel
theorem dX8_puts_45 : decode cX8_puts 45 = .ok (.aload_n 0, 1) := by decide +kernel
theorem dX8_puts_46 : decode cX8_puts 46 = .ok (.getfield 12, 3) := by decide +kernel
theorem dX8_puts_49 : decode cX8_puts 49 = .ok (.getfield 137, 3) := by decide +kernel
theorem dX8_puts_52 : decode cX8_puts 52 = .ok (.dup, 1) := by decide +kernel
theorem dX8_puts_53 : decode cX8_puts 53 = .ok (.getfield 166, 3) := by decide +kernel
theorem dX8_puts_56 : decode cX8_puts 56 = .ok (.iconst 1, 1) := by decide +kernel
theorem dX8_puts_57 : decode cX8_puts 57 = .ok (.iload_n 1, 1) := by decide +kernel
theorem dX8_puts_58 : decode cX8_puts 58 = .ok (.ishl, 1) := by decide +kernel
theorem dX8_puts_59 : decode cX8_puts 59 = .ok (.iconst (-1), 1) := by decide +kernel
theorem dX8_puts_60 : decode cX8_puts 60 = .ok (.ixor, 1) := by decide +kernel
theorem dX8_puts_61 : decode cX8_puts 61 = .ok (.iand, 1) := by decide +kernel
theorem dX8_puts_62 : decode cX8_puts 62 = .ok (.putfield 166, 3) := by decide +kernel
theorem dX8_puts_65 : decode cX8_puts 65 = .ok (.aload_n 0, 1) := by decide +kernel
theorem dX8_puts_66 : decode cX8_puts 66 = .ok (.getfield 12, 3) := by decide +kernel
theorem dX8_puts_69 : decode cX8_puts 69 = .ok (.getfield 137, 3) := by decide +kernel
theorem dX8_puts_72 : decode cX8_puts 72 = .ok (.getfield 166, 3) := by decide +kernel
theorem dX8_puts_75 : decode cX8_puts 75 = .ok (.invokestatic 169, 3) := by decide +kernel
theorem dX8_puts_78 : decode cX8_puts 78 = .ok (.ireturn, 1) := by decide +kernel
theorem dX8_undo_0 : decode cX8_undo 0 = .ok (.aload_n 0, 1) := by decide +kernel
theorem dX8_undo_1 : decode cX8_undo 1 = .ok (.getfield 12, 3) := by decide +kernel
theorem dX8_undo_4 : decode cX8_undo 4 = .ok (.getfield 84, 3) := by decide +kernel
theorem dX8_undo_7 : decode cX8_undo 7 = .ok (.ifCond .gt 8, 3) := by decide +kernel
theorem dX8_undo_10 : decode cX8_undo 10 = .ok (.aload_n 0, 1) := by decide +kernel
theorem dX8_undo_11 : decode cX8_undo 11 = .ok (.invokevirtual 146, 3) := by decide +kernel
theorem dX8_undo_14 : decode cX8_undo 14 = .ok (.ireturn, 1) := by decide +kernel
theorem dX8_undo_15 : decode cX8_undo 15 = .ok (.aload_n 0, 1) := by decide +kernel
theorem dX8_undo_16 : decode cX8_undo 16 = .ok (.getfield 12, 3) := by decide +kernel
theorem dX8_undo_19 : decode cX8_undo 19 = .ok (.invokevirtual 175, 3) := by decide +kernel
theorem dX8_undo_22 : decode cX8_undo 22 = .ok (.aload_n 0, 1) := by decide +kernel
theorem dX8_undo_23 : decode cX8_undo 23 = .ok (.getfield 12, 3) := by decide +kernel
theorem dX8_undo_26 : decode cX8_undo 26 = .ok (.getfield 137, 3) := by decide +kernel
theorem dX8_undo_29 : decode cX8_undo 29 = .ok (.getfield 141, 3) := by decide +kernel
theorem dX8_undo_32 : decode cX8_undo 32 = .ok (.ireturn, 1) := by decide +kernel
theorem dX8_of_0 : decode cX8_of 0 = .ok (.aload_n 0, 1) := by decide +kernel
theorem dX8_of_1 : decode cX8_of 1 = .ok (.getfield 12, 3) := by decide +kernel
theorem dX8_of_4 : decode cX8_of 4 = .ok (.iload_n 1, 1) := by decide +kernel
theorem dX8_of_5 : decode cX8_of 5 = .ok (.invokevirtual 162, 3) := by decide +kernel
theorem dX8_of_8 : decode cX8_of 8 = .ok (.ifCond .ne 8, 3) := by decide +kernel
theorem dX8_of_11 : decode cX8_of 11 = .ok (.aload_n 0, 1) := by decide +kernel
theorem dX8_of_12 : decode cX8_of 12 = .ok (.invokevirtual 70, 3) := by decide +kernel
theorem dX8_of_15 : decode cX8_of 15 = .ok (.ireturn, 1) := by decide +kernel
theorem dX8_of_16 : decode cX8_of 16 = .ok (.iload_n 2, 1) := by decide +kernel
theorem dX8_of_17 : decode cX8_of 17 = .ok (.tableswitch 104 0 5 #[39, 49, 59, 69, 79, 94], 39) := by decide +kernel
theorem dX8_of_56 : decode cX8_of 56 = .ok (.aload_n 0, 1) := by decide +kernel
theorem dX8_of_57 : decode cX8_of 57 = .ok (.getfield 12, 3) := by decide +kernel
theorem dX8_of_60 : decode cX8_of 60 = .ok (.getfield 178, 3) := by decide +kernel
theorem dX8_of_63 : decode cX8_of 63 = .ok (.iload_n 1, 1) := by decide +kernel
theorem dX8_of_64 : decode cX8_of 64 = .ok (.iaload, 1) := by decide +kernel
theorem dX8_of_65 : decode cX8_of 65 = .ok (.ireturn, 1) := by decide +kernel
theorem dX8_of_66 : decode cX8_of 66 = .ok (.aload_n 0, 1) := by decide +kernel
theorem dX8_of_67 : decode cX8_of 67 = .ok (.getfield 12, 3) := by decide +kernel
theorem dX8_of_70 : decode cX8_of 70 = .ok (.getfield 181, 3) := by decide +kernel
theorem dX8_of_73 : decode cX8_of 73 = .ok (.iload_n 1, 1) := by decide +kernel
theorem dX8_of_74 : decode cX8_of 74 = .ok (.iaload, 1) := by decide +kernel
theorem dX8_of_75 : decode cX8_of 75 = .ok (.ireturn, 1) := by decide +kernel
theorem dX8_of_76 : decode cX8_of 76 = .ok (.aload_n 0, 1) := by decide +kernel
theorem dX8_of_77 : decode cX8_of 77 = .ok (.getfield 12, 3) := by decide +kernel
theorem dX8_of_80 : decode cX8_of 80 = .ok (.getfield 155, 3) := by decide +kernel
theorem dX8_of_83 : decode cX8_of 83 = .ok (.iload_n 1, 1) := by decide +kernel
theorem dX8_of_84 : decode cX8_of 84 = .ok (.iaload, 1) := by decide +kernel
theorem dX8_of_85 : decode cX8_of 85 = .ok (.ireturn, 1) := by decide +kernel
theorem dX8_of_86 : decode cX8_of 86 = .ok (.aload_n 0, 1) := by decide +kernel
theorem dX8_of_87 : decode cX8_of 87 = .ok (.getfield 12, 3) := by decide +kernel
theorem dX8_of_90 : decode cX8_of 90 = .ok (.getfield 184, 3) := by decide +kernel
theorem dX8_of_93 : decode cX8_of 93 = .ok (.iload_n 1, 1) := by decide +kernel
theorem dX8_of_94 : decode cX8_of 94 = .ok (.iaload, 1) := by decide +kernel
theorem dX8_of_95 : decode cX8_of 95 = .ok (.ireturn, 1) := by decide +kernel
theorem dX8_of_96 : decode cX8_of 96 = .ok (.aload_n 0, 1) := by decide +kernel
theorem dX8_of_97 : decode cX8_of 97 = .ok (.getfield 12, 3) := by decide +kernel
theorem dX8_of_100 : decode cX8_of 100 = .ok (.getfield 137, 3) := by decide +kernel
theorem dX8_of_103 : decode cX8_of 103 = .ok (.getfield 166, 3) := by decide +kernel
theorem dX8_of_106 : decode cX8_of 106 = .ok (.iload_n 1, 1) := by decide +kernel
theorem dX8_of_107 : decode cX8_of 107 = .ok (.invokestatic 105, 3) := by decide +kernel
theorem dX8_of_110 : decode cX8_of 110 = .ok (.ireturn, 1) := by decide +kernel
theorem dX8_of_111 : decode cX8_of 111 = .ok (.aload_n 0, 1) := by decide +kernel
theorem dX8_of_112 : decode cX8_of 112 = .ok (.getfield 12, 3) := by decide +kernel
theorem dX8_of_115 : decode cX8_of 115 = .ok (.getfield 102, 3) := by decide +kernel
theorem dX8_of_118 : decode cX8_of 118 = .ok (.iload_n 1, 1) := by decide +kernel
theorem dX8_of_119 : decode cX8_of 119 = .ok (.iaload, 1) := by decide +kernel
theorem dX8_of_120 : decode cX8_of 120 = .ok (.ireturn, 1) := by decide +kernel
theorem dX8_of_121 : decode cX8_of 121 = .ok (.aload_n 0, 1) := by decide +kernel
theorem dX8_of_122 : decode cX8_of 122 = .ok (.invokevirtual 70, 3) := by decide +kernel
theorem dX8_of_125 : decode cX8_of 125 = .ok (.ireturn, 1) := by decide +kernel
theorem dX8_sways_0 : decode cX8_sways 0 = .ok (.aload_n 0, 1) := by decide +kernel
theorem dX8_sways_1 : decode cX8_sways 1 = .ok (.getfield 12, 3) := by decide +kernel
theorem dX8_sways_4 : decode cX8_sways 4 = .ok (.iload_n 1, 1) := by decide +kernel
theorem dX8_sways_5 : decode cX8_sways 5 = .ok (.invokevirtual 162, 3) := by decide +kernel
theorem dX8_sways_8 : decode cX8_sways 8 = .ok (.ifCond .eq 22, 3) := by decide +kernel
theorem dX8_sways_11 : decode cX8_sways 11 = .ok (.iload_n 2, 1) := by decide +kernel
theorem dX8_sways_12 : decode cX8_sways 12 = .ok (.iconst 0, 1) := by decide +kernel
theorem dX8_sways_13 : decode cX8_sways 13 = .ok (.bipush 9, 2) := by decide +kernel
theorem dX8_sways_15 : decode cX8_sways 15 = .ok (.invokestatic 66, 3) := by decide +kernel
theorem dX8_sways_18 : decode cX8_sways 18 = .ok (.ifCond .eq 12, 3) := by decide +kernel
theorem dX8_sways_21 : decode cX8_sways 21 = .ok (.iload_n 3, 1) := by decide +kernel
theorem dX8_sways_22 : decode cX8_sways 22 = .ok (.iconst 0, 1) := by decide +kernel
theorem dX8_sways_23 : decode cX8_sways 23 = .ok (.iconst 1, 1) := by decide +kernel
theorem dX8_sways_24 : decode cX8_sways 24 = .ok (.invokestatic 66, 3) := by decide +kernel
theorem dX8_sways_27 : decode cX8_sways 27 = .ok (.ifCond .ne 8, 3) := by decide +kernel
theorem dX8_sways_30 : decode cX8_sways 30 = .ok (.aload_n 0, 1) := by decide +kernel
theorem dX8_sways_31 : decode cX8_sways 31 = .ok (.invokevirtual 70, 3) := by decide +kernel
theorem dX8_sways_34 : decode cX8_sways 34 = .ok (.ireturn, 1) := by decide +kernel
theorem dX8_sways_35 : decode cX8_sways 35 = .ok (.iload_n 3, 1) := by decide +kernel
theorem dX8_sways_36 : decode cX8_sways 36 = .ok (.ifCond .ne 28, 3) := by decide +kernel
theorem dX8_sways_39 : decode cX8_sways 39 = .ok (.aload_n 0, 1) := by decide +kernel
theorem dX8_sways_40 : decode cX8_sways 40 = .ok (.getfield 12, 3) := by decide +kernel
theorem dX8_sways_43 : decode cX8_sways 43 = .ok (.getfield 178, 3) := by decide +kernel
theorem dX8_sways_46 : decode cX8_sways 46 = .ok (.iload_n 1, 1) := by decide +kernel
theorem dX8_sways_47 : decode cX8_sways 47 = .ok (.iaload, 1) := by decide +kernel
theorem dX8_sways_48 : decode cX8_sways 48 = .ok (.aload_n 0, 1) := by decide +kernel
theorem dX8_sways_49 : decode cX8_sways 49 = .ok (.getfield 12, 3) := by decide +kernel
theorem dX8_sways_52 : decode cX8_sways 52 = .ok (.getfield 181, 3) := by decide +kernel
theorem dX8_sways_55 : decode cX8_sways 55 = .ok (.iload_n 1, 1) := by decide +kernel
theorem dX8_sways_56 : decode cX8_sways 56 = .ok (.iaload, 1) := by decide +kernel
theorem dX8_sways_57 : decode cX8_sways 57 = .ok (.iload_n 2, 1) := by decide +kernel
theorem dX8_sways_58 : decode cX8_sways 58 = .ok (.invokestatic 187, 3) := by decide +kernel
theorem dX8_sways_61 : decode cX8_sways 61 = .ok (.goto 16, 3) := by decide +kernel
theorem dX8_sways_64 : decode cX8_sways 64 = .ok (.aload_n 0, 1) := by decide +kernel
theorem dX8_sways_65 : decode cX8_sways 65 = .ok (.getfield 12, 3) := by decide +kernel
theorem dX8_sways_68 : decode cX8_sways 68 = .ok (.getfield 178, 3) := by decide +kernel
theorem dX8_sways_71 : decode cX8_sways 71 = .ok (.iload_n 1, 1) := by decide +kernel
theorem dX8_sways_72 : decode cX8_sways 72 = .ok (.iaload, 1) := by decide +kernel
theorem dX8_sways_73 : decode cX8_sways 73 = .ok (.iload_n 2, 1) := by decide +kernel
theorem dX8_sways_74 : decode cX8_sways 74 = .ok (.invokestatic 191, 3) := by decide +kernel
theorem dX8_sways_77 : decode cX8_sways 77 = .ok (.ireturn, 1) := by decide +kernel
theorem dX8_now_0 : decode cX8_now 0 = .ok (.iload_n 1, 1) := by decide +kernel
theorem dX8_now_1 : decode cX8_now 1 = .ok (.tableswitch 90 0 4 #[35, 46, 57, 68, 79], 35) := by decide +kernel
theorem dX8_now_36 : decode cX8_now 36 = .ok (.aload_n 0, 1) := by decide +kernel
theorem dX8_now_37 : decode cX8_now 37 = .ok (.getfield 12, 3) := by decide +kernel
theorem dX8_now_40 : decode cX8_now 40 = .ok (.getfield 137, 3) := by decide +kernel
theorem dX8_now_43 : decode cX8_now 43 = .ok (.getfield 141, 3) := by decide +kernel
theorem dX8_now_46 : decode cX8_now 46 = .ok (.ireturn, 1) := by decide +kernel
theorem dX8_now_47 : decode cX8_now 47 = .ok (.aload_n 0, 1) := by decide +kernel
theorem dX8_now_48 : decode cX8_now 48 = .ok (.getfield 12, 3) := by decide +kernel
theorem dX8_now_51 : decode cX8_now 51 = .ok (.getfield 137, 3) := by decide +kernel
theorem dX8_now_54 : decode cX8_now 54 = .ok (.getfield 166, 3) := by decide +kernel
theorem dX8_now_57 : decode cX8_now 57 = .ok (.ireturn, 1) := by decide +kernel
theorem dX8_now_58 : decode cX8_now 58 = .ok (.aload_n 0, 1) := by decide +kernel
theorem dX8_now_59 : decode cX8_now 59 = .ok (.getfield 12, 3) := by decide +kernel
theorem dX8_now_62 : decode cX8_now 62 = .ok (.getfield 137, 3) := by decide +kernel
theorem dX8_now_65 : decode cX8_now 65 = .ok (.getfield 194, 3) := by decide +kernel
theorem dX8_now_68 : decode cX8_now 68 = .ok (.ireturn, 1) := by decide +kernel
theorem dX8_now_69 : decode cX8_now 69 = .ok (.aload_n 0, 1) := by decide +kernel
theorem dX8_now_70 : decode cX8_now 70 = .ok (.getfield 12, 3) := by decide +kernel
theorem dX8_now_73 : decode cX8_now 73 = .ok (.getfield 137, 3) := by decide +kernel
theorem dX8_now_76 : decode cX8_now 76 = .ok (.getfield 197, 3) := by decide +kernel
theorem dX8_now_79 : decode cX8_now 79 = .ok (.ireturn, 1) := by decide +kernel
theorem dX8_now_80 : decode cX8_now 80 = .ok (.aload_n 0, 1) := by decide +kernel
theorem dX8_now_81 : decode cX8_now 81 = .ok (.getfield 12, 3) := by decide +kernel
theorem dX8_now_84 : decode cX8_now 84 = .ok (.getfield 137, 3) := by decide +kernel
theorem dX8_now_87 : decode cX8_now 87 = .ok (.getfield 149, 3) := by decide +kernel
theorem dX8_now_90 : decode cX8_now 90 = .ok (.ireturn, 1) := by decide +kernel
theorem dX8_now_91 : decode cX8_now 91 = .ok (.aload_n 0, 1) := by decide +kernel
theorem dX8_now_92 : decode cX8_now 92 = .ok (.invokevirtual 70, 3) := by decide +kernel
theorem dX8_now_95 : decode cX8_now 95 = .ok (.ireturn, 1) := by decide +kernel
theorem dX8_then_0 : decode cX8_then 0 = .ok (.iload_n 1, 1) := by decide +kernel
theorem dX8_then_1 : decode cX8_then 1 = .ok (.aload_n 0, 1) := by decide +kernel
theorem dX8_then_2 : decode cX8_then 2 = .ok (.getfield 12, 3) := by decide +kernel
theorem dX8_then_5 : decode cX8_then 5 = .ok (.getfield 137, 3) := by decide +kernel
theorem dX8_then_8 : decode cX8_then 8 = .ok (.getfield 141, 3) := by decide +kernel
theorem dX8_then_11 : decode cX8_then 11 = .ok (.bipush 9, 2) := by decide +kernel
theorem dX8_then_13 : decode cX8_then 13 = .ok (.invokestatic 66, 3) := by decide +kernel
theorem dX8_then_16 : decode cX8_then 16 = .ok (.ifCond .eq 12, 3) := by decide +kernel
theorem dX8_then_19 : decode cX8_then 19 = .ok (.iload_n 2, 1) := by decide +kernel
theorem dX8_then_20 : decode cX8_then 20 = .ok (.iconst 0, 1) := by decide +kernel
theorem dX8_then_21 : decode cX8_then 21 = .ok (.iconst 2, 1) := by decide +kernel
theorem dX8_then_22 : decode cX8_then 22 = .ok (.invokestatic 66, 3) := by decide +kernel
theorem dX8_then_25 : decode cX8_then 25 = .ok (.ifCond .ne 8, 3) := by decide +kernel
theorem dX8_then_28 : decode cX8_then 28 = .ok (.aload_n 0, 1) := by decide +kernel
theorem dX8_then_29 : decode cX8_then 29 = .ok (.invokevirtual 70, 3) := by decide +kernel
theorem dX8_then_32 : decode cX8_then 32 = .ok (.ireturn, 1) := by decide +kernel
theorem dX8_then_33 : decode cX8_then 33 = .ok (.aload_n 0, 1) := by decide +kernel
theorem dX8_then_34 : decode cX8_then 34 = .ok (.getfield 27, 3) := by decide +kernel
theorem dX8_then_37 : decode cX8_then 37 = .ok (.aload_n 0, 1) := by decide +kernel
theorem dX8_then_38 : decode cX8_then 38 = .ok (.getfield 12, 3) := by decide +kernel
theorem dX8_then_41 : decode cX8_then 41 = .ok (.invokevirtual 200, 3) := by decide +kernel
theorem dX8_then_44 : decode cX8_then 44 = .ok (.aload_n 0, 1) := by decide +kernel
theorem dX8_then_45 : decode cX8_then 45 = .ok (.getfield 27, 3) := by decide +kernel
theorem dX8_then_48 : decode cX8_then 48 = .ok (.aload_n 0, 1) := by decide +kernel
theorem dX8_then_49 : decode cX8_then 49 = .ok (.getfield 12, 3) := by decide +kernel
theorem dX8_then_52 : decode cX8_then 52 = .ok (.iload_n 1, 1) := by decide +kernel
theorem dX8_then_53 : decode cX8_then 53 = .ok (.invokevirtual 203, 3) := by decide +kernel
theorem dX8_then_56 : decode cX8_then 56 = .ok (.iload_n 2, 1) := by decide +kernel
theorem dX8_then_57 : decode cX8_then 57 = .ok (.lookupswitch 57 #[(0, 27), (1, 38)], 27) := by decide +kernel
theorem dX8_then_84 : decode cX8_then 84 = .ok (.aload_n 0, 1) := by decide +kernel
theorem dX8_then_85 : decode cX8_then 85 = .ok (.getfield 27, 3) := by decide +kernel
theorem dX8_then_88 : decode cX8_then 88 = .ok (.getfield 207, 3) := by decide +kernel
theorem dX8_then_91 : decode cX8_then 91 = .ok (.getfield 166, 3) := by decide +kernel
theorem dX8_then_94 : decode cX8_then 94 = .ok (.ireturn, 1) := by decide +kernel
theorem dX8_then_95 : decode cX8_then 95 = .ok (.aload_n 0, 1) := by decide +kernel
theorem dX8_then_96 : decode cX8_then 96 = .ok (.getfield 12, 3) := by decide +kernel
theorem dX8_then_99 : decode cX8_then 99 = .ok (.aload_n 0, 1) := by decide +kernel
theorem dX8_then_100 : decode cX8_then 100 = .ok (.getfield 27, 3) := by decide +kernel
theorem dX8_then_103 : decode cX8_then 103 = .ok (.getfield 207, 3) := by decide +kernel
theorem dX8_then_106 : decode cX8_then 106 = .ok (.getfield 166, 3) := by decide +kernel
theorem dX8_then_109 : decode cX8_then 109 = .ok (.iload_n 1, 1) := by decide +kernel
theorem dX8_then_110 : decode cX8_then 110 = .ok (.invokevirtual 208, 3) := by decide +kernel
theorem dX8_then_113 : decode cX8_then 113 = .ok (.ireturn, 1) := by decide +kernel
theorem dX8_then_114 : decode cX8_then 114 = .ok (.aload_n 0, 1) := by decide +kernel
theorem dX8_then_115 : decode cX8_then 115 = .ok (.getfield 27, 3) := by decide +kernel
theorem dX8_then_118 : decode cX8_then 118 = .ok (.getfield 207, 3) := by decide +kernel
theorem dX8_then_121 : decode cX8_then 121 = .ok (.getfield 149, 3) := by decide +kernel
theorem dX8_then_124 : decode cX8_then 124 = .ok (.ireturn, 1) := by decide +kernel
theorem dX8_end_0 : decode cX8_end 0 = .ok (.iload_n 1, 1) := by decide +kernel
theorem dX8_end_1 : decode cX8_end 1 = .ok (.iconst 0, 1) := by decide +kernel
theorem dX8_end_2 : decode cX8_end 2 = .ok (.iconst 2, 1) := by decide +kernel
theorem dX8_end_3 : decode cX8_end 3 = .ok (.invokestatic 66, 3) := by decide +kernel
theorem dX8_end_6 : decode cX8_end 6 = .ok (.ifCond .ne 8, 3) := by decide +kernel
theorem dX8_end_9 : decode cX8_end 9 = .ok (.aload_n 0, 1) := by decide +kernel
theorem dX8_end_10 : decode cX8_end 10 = .ok (.invokevirtual 70, 3) := by decide +kernel
theorem dX8_end_13 : decode cX8_end 13 = .ok (.ireturn, 1) := by decide +kernel
theorem dX8_end_14 : decode cX8_end 14 = .ok (.aload_n 0, 1) := by decide +kernel
theorem dX8_end_15 : decode cX8_end 15 = .ok (.getfield 27, 3) := by decide +kernel
theorem dX8_end_18 : decode cX8_end 18 = .ok (.aload_n 0, 1) := by decide +kernel
theorem dX8_end_19 : decode cX8_end 19 = .ok (.getfield 12, 3) := by decide +kernel
theorem dX8_end_22 : decode cX8_end 22 = .ok (.invokevirtual 200, 3) := by decide +kernel
theorem dX8_end_25 : decode cX8_end 25 = .ok (.aload_n 0, 1) := by decide +kernel
theorem dX8_end_26 : decode cX8_end 26 = .ok (.getfield 27, 3) := by decide +kernel
theorem dX8_end_29 : decode cX8_end 29 = .ok (.aload_n 0, 1) := by decide +kernel
theorem dX8_end_30 : decode cX8_end 30 = .ok (.getfield 12, 3) := by decide +kernel
theorem dX8_end_33 : decode cX8_end 33 = .ok (.bipush 9, 2) := by decide +kernel
theorem dX8_end_35 : decode cX8_end 35 = .ok (.invokevirtual 203, 3) := by decide +kernel
theorem dX8_end_38 : decode cX8_end 38 = .ok (.iload_n 1, 1) := by decide +kernel
theorem dX8_end_39 : decode cX8_end 39 = .ok (.lookupswitch 47 #[(0, 25), (1, 36)], 25) := by decide +kernel
theorem dX8_end_64 : decode cX8_end 64 = .ok (.aload_n 0, 1) := by decide +kernel
theorem dX8_end_65 : decode cX8_end 65 = .ok (.getfield 27, 3) := by decide +kernel
theorem dX8_end_68 : decode cX8_end 68 = .ok (.getfield 207, 3) := by decide +kernel
theorem dX8_end_71 : decode cX8_end 71 = .ok (.getfield 194, 3) := by decide +kernel
theorem dX8_end_74 : decode cX8_end 74 = .ok (.ireturn, 1) := by decide +kernel
theorem dX8_end_75 : decode cX8_end 75 = .ok (.aload_n 0, 1) := by decide +kernel
theorem dX8_end_76 : decode cX8_end 76 = .ok (.getfield 27, 3) := by decide +kernel
theorem dX8_end_79 : decode cX8_end 79 = .ok (.getfield 207, 3) := by decide +kernel
theorem dX8_end_82 : decode cX8_end 82 = .ok (.getfield 197, 3) := by decide +kernel
theorem dX8_end_85 : decode cX8_end 85 = .ok (.ireturn, 1) := by decide +kernel
theorem dX8_end_86 : decode cX8_end 86 = .ok (.aload_n 0, 1) := by decide +kernel
theorem dX8_end_87 : decode cX8_end 87 = .ok (.getfield 27, 3) := by decide +kernel
theorem dX8_end_90 : decode cX8_end 90 = .ok (.getfield 207, 3) := by decide +kernel
theorem dX8_end_93 : decode cX8_end 93 = .ok (.getfield 149, 3) := by decide +kernel
theorem dX8_end_96 : decode cX8_end 96 = .ok (.ireturn, 1) := by decide +kernel
theorem dX8_decks_0 : decode cX8_decks 0 = .ok (.iload_n 1, 1) := by decide +kernel
theorem dX8_decks_1 : decode cX8_decks 1 = .ok (.iconst (-1), 1) := by decide +kernel
theorem dX8_decks_2 : decode cX8_decks 2 = .ok (.if_icmp .eq 19, 3) := by decide +kernel
theorem dX8_decks_5 : decode cX8_decks 5 = .ok (.aload_n 0, 1) := by decide +kernel
theorem dX8_decks_6 : decode cX8_decks 6 = .ok (.getfield 12, 3) := by decide +kernel
theorem dX8_decks_9 : decode cX8_decks 9 = .ok (.iload_n 1, 1) := by decide +kernel
theorem dX8_decks_10 : decode cX8_decks 10 = .ok (.invokevirtual 162, 3) := by decide +kernel
theorem dX8_decks_13 : decode cX8_decks 13 = .ok (.ifCond .ne 8, 3) := by decide +kernel
theorem dX8_decks_16 : decode cX8_decks 16 = .ok (.aload_n 0, 1) := by decide +kernel
theorem dX8_decks_17 : decode cX8_decks 17 = .ok (.invokevirtual 211, 3) := by decide +kernel
theorem dX8_decks_20 : decode cX8_decks 20 = .ok (.ireturn, 1) := by decide +kernel
theorem dX8_decks_21 : decode cX8_decks 21 = .ok (.aload_n 0, 1) := by decide +kernel
theorem dX8_decks_22 : decode cX8_decks 22 = .ok (.getfield 34, 3) := by decide +kernel
theorem dX8_decks_25 : decode cX8_decks 25 = .ok (.aload_n 0, 1) := by decide +kernel
theorem dX8_decks_26 : decode cX8_decks 26 = .ok (.getfield 12, 3) := by decide +kernel
theorem dX8_decks_29 : decode cX8_decks 29 = .ok (.invokevirtual 214, 3) := by decide +kernel
theorem dX8_decks_32 : decode cX8_decks 32 = .ok (.istore_n 2, 1) := by decide +kernel
theorem dX8_decks_33 : decode cX8_decks 33 = .ok (.iload_n 1, 1) := by decide +kernel
theorem dX8_decks_34 : decode cX8_decks 34 = .ok (.iconst (-1), 1) := by decide +kernel
theorem dX8_decks_35 : decode cX8_decks 35 = .ok (.if_icmp .ne 7, 3) := by decide +kernel
theorem dX8_decks_38 : decode cX8_decks 38 = .ok (.iload_n 2, 1) := by decide +kernel
theorem dX8_decks_39 : decode cX8_decks 39 = .ok (.goto 12, 3) := by decide +kernel
theorem dX8_decks_42 : decode cX8_decks 42 = .ok (.aload_n 0, 1) := by decide +kernel
theorem dX8_decks_43 : decode cX8_decks 43 = .ok (.getfield 34, 3) := by decide +kernel
theorem dX8_decks_46 : decode cX8_decks 46 = .ok (.getfield 218, 3) := by decide +kernel
theorem dX8_decks_49 : decode cX8_decks 49 = .ok (.iload_n 1, 1) := by decide +kernel
theorem dX8_decks_50 : decode cX8_decks 50 = .ok (.iaload, 1) := by decide +kernel
theorem dX8_decks_51 : decode cX8_decks 51 = .ok (.ireturn, 1) := by decide +kernel
theorem dX8_better_0 : decode cX8_better 0 = .ok (.aload_n 0, 1) := by decide +kernel
theorem dX8_better_1 : decode cX8_better 1 = .ok (.getfield 27, 3) := by decide +kernel
theorem dX8_better_4 : decode cX8_better 4 = .ok (.aload_n 0, 1) := by decide +kernel
theorem dX8_better_5 : decode cX8_better 5 = .ok (.getfield 12, 3) := by decide +kernel
theorem dX8_better_8 : decode cX8_better 8 = .ok (.invokevirtual 221, 3) := by decide +kernel
theorem dX8_better_11 : decode cX8_better 11 = .ok (.ireturn, 1) := by decide +kernel
theorem dX8_raise_0 : decode cX8_raise 0 = .ok (.aload_n 0, 1) := by decide +kernel
theorem dX8_raise_1 : decode cX8_raise 1 = .ok (.getfield 27, 3) := by decide +kernel
theorem dX8_raise_4 : decode cX8_raise 4 = .ok (.aload_n 0, 1) := by decide +kernel
theorem dX8_raise_5 : decode cX8_raise 5 = .ok (.getfield 12, 3) := by decide +kernel
theorem dX8_raise_8 : decode cX8_raise 8 = .ok (.invokevirtual 224, 3) := by decide +kernel
theorem dX8_raise_11 : decode cX8_raise 11 = .ok (.ireturn, 1) := by decide +kernel
theorem dX8_upstairs_0 : decode cX8_upstairs 0 = .ok (.iload_n 1, 1) := by decide +kernel
theorem dX8_upstairs_1 : decode cX8_upstairs 1 = .ok (.iconst 0, 1) := by decide +kernel
theorem dX8_upstairs_2 : decode cX8_upstairs 2 = .ok (.bipush 9, 2) := by decide +kernel
theorem dX8_upstairs_4 : decode cX8_upstairs 4 = .ok (.invokestatic 66, 3) := by decide +kernel
theorem dX8_upstairs_7 : decode cX8_upstairs 7 = .ok (.ifCond .eq 14, 3) := by decide +kernel
theorem dX8_upstairs_10 : decode cX8_upstairs 10 = .ok (.iload_n 2, 1) := by decide +kernel
theorem dX8_upstairs_11 : decode cX8_upstairs 11 = .ok (.iconst 0, 1) := by decide +kernel
theorem dX8_upstairs_12 : decode cX8_upstairs 12 = .ok (.sipush 200, 3) := by decide +kernel
theorem dX8_upstairs_15 : decode cX8_upstairs 15 = .ok (.invokestatic 66, 3) := by decide +kernel
theorem dX8_upstairs_18 : decode cX8_upstairs 18 = .ok (.ifCond .ne 8, 3) := by decide +kernel
theorem dX8_upstairs_21 : decode cX8_upstairs 21 = .ok (.aload_n 0, 1) := by decide +kernel
theorem dX8_upstairs_22 : decode cX8_upstairs 22 = .ok (.invokevirtual 70, 3) := by decide +kernel
theorem dX8_upstairs_25 : decode cX8_upstairs 25 = .ok (.ireturn, 1) := by decide +kernel
theorem dX8_upstairs_26 : decode cX8_upstairs 26 = .ok (.iload_n 3, 1) := by decide +kernel
theorem dX8_upstairs_27 : decode cX8_upstairs 27 = .ok (.iconst 0, 1) := by decide +kernel
theorem dX8_upstairs_28 : decode cX8_upstairs 28 = .ok (.iconst 2, 1) := by decide +kernel
theorem dX8_upstairs_29 : decode cX8_upstairs 29 = .ok (.invokestatic 66, 3) := by decide +kernel
theorem dX8_upstairs_32 : decode cX8_upstairs 32 = .ok (.ifCond .ne 8, 3) := by decide +kernel
theorem dX8_upstairs_35 : decode cX8_upstairs 35 = .ok (.aload_n 0, 1) := by decide +kernel
theorem dX8_upstairs_36 : decode cX8_upstairs 36 = .ok (.invokevirtual 70, 3) := by decide +kernel
theorem dX8_upstairs_39 : decode cX8_upstairs 39 = .ok (.ireturn, 1) := by decide +kernel
theorem dX8_upstairs_40 : decode cX8_upstairs 40 = .ok (.aload_n 0, 1) := by decide +kernel
theorem dX8_upstairs_41 : decode cX8_upstairs 41 = .ok (.getfield 41, 3) := by decide +kernel
theorem dX8_upstairs_44 : decode cX8_upstairs 44 = .ok (.aload_n 0, 1) := by decide +kernel
theorem dX8_upstairs_45 : decode cX8_upstairs 45 = .ok (.getfield 12, 3) := by decide +kernel
theorem dX8_upstairs_48 : decode cX8_upstairs 48 = .ok (.iload_n 1, 1) := by decide +kernel
theorem dX8_upstairs_49 : decode cX8_upstairs 49 = .ok (.iload_n 2, 1) := by decide +kernel
theorem dX8_upstairs_50 : decode cX8_upstairs 50 = .ok (.invokevirtual 227, 3) := by decide +kernel
theorem dX8_upstairs_53 : decode cX8_upstairs 53 = .ok (.iload_n 3, 1) := by decide +kernel
theorem dX8_upstairs_54 : decode cX8_upstairs 54 = .ok (.lookupswitch 56 #[(0, 26), (1, 34)], 26) := by decide +kernel
theorem dX8_upstairs_80 : decode cX8_upstairs 80 = .ok (.aload_n 0, 1) := by decide +kernel
theorem dX8_upstairs_81 : decode cX8_upstairs 81 = .ok (.getfield 41, 3) := by decide +kernel
theorem dX8_upstairs_84 : decode cX8_upstairs 84 = .ok (.getfield 231, 3) := by decide +kernel
theorem dX8_upstairs_87 : decode cX8_upstairs 87 = .ok (.ireturn, 1) := by decide +kernel
theorem dX8_upstairs_88 : decode cX8_upstairs 88 = .ok (.aload_n 0, 1) := by decide +kernel
theorem dX8_upstairs_89 : decode cX8_upstairs 89 = .ok (.getfield 41, 3) := by decide +kernel
theorem dX8_upstairs_92 : decode cX8_upstairs 92 = .ok (.getfield 231, 3) := by decide +kernel
theorem dX8_upstairs_95 : decode cX8_upstairs 95 = .ok (.ifCond .ne 7, 3) := by decide +kernel
theorem dX8_upstairs_98 : decode cX8_upstairs 98 = .ok (.iconst (-1), 1) := by decide +kernel
theorem dX8_upstairs_99 : decode cX8_upstairs 99 = .ok (.goto 10, 3) := by decide +kernel
theorem dX8_upstairs_102 : decode cX8_upstairs 102 = .ok (.aload_n 0, 1) := by decide +kernel
theorem dX8_upstairs_103 : decode cX8_upstairs 103 = .ok (.getfield 41, 3) := by decide +kernel
theorem dX8_upstairs_106 : decode cX8_upstairs 106 = .ok (.getfield 234, 3) := by decide +kernel
theorem dX8_upstairs_109 : decode cX8_upstairs 109 = .ok (.ireturn, 1) := by decide +kernel
theorem dX8_upstairs_110 : decode cX8_upstairs 110 = .ok (.aload_n 0, 1) := by decide +kernel
theorem dX8_upstairs_111 : decode cX8_upstairs 111 = .ok (.getfield 41, 3) := by decide +kernel
theorem dX8_upstairs_114 : decode cX8_upstairs 114 = .ok (.getfield 237, 3) := by decide +kernel
theorem dX8_upstairs_117 : decode cX8_upstairs 117 = .ok (.ireturn, 1) := by decide +kernel
theorem dX8_note_0 : decode cX8_note 0 = .ok (.aload_n 0, 1) := by decide +kernel
theorem dX8_note_1 : decode cX8_note 1 = .ok (.getfield 12, 3) := by decide +kernel
theorem dX8_note_4 : decode cX8_note 4 = .ok (.iload_n 1, 1) := by decide +kernel
theorem dX8_note_5 : decode cX8_note 5 = .ok (.invokevirtual 162, 3) := by decide +kernel
theorem dX8_note_8 : decode cX8_note 8 = .ok (.ifCond .eq 13, 3) := by decide +kernel
theorem dX8_note_11 : decode cX8_note 11 = .ok (.iload_n 2, 1) := by decide +kernel
theorem dX8_note_12 : decode cX8_note 12 = .ok (.iconst 0, 1) := by decide +kernel
theorem dX8_note_13 : decode cX8_note 13 = .ok (.bipush 9, 2) := by decide +kernel
theorem dX8_note_15 : decode cX8_note 15 = .ok (.invokestatic 66, 3) := by decide +kernel
theorem dX8_note_18 : decode cX8_note 18 = .ok (.ifCond .ne 8, 3) := by decide +kernel
theorem dX8_note_21 : decode cX8_note 21 = .ok (.aload_n 0, 1) := by decide +kernel
theorem dX8_note_22 : decode cX8_note 22 = .ok (.invokevirtual 70, 3) := by decide +kernel
theorem dX8_note_25 : decode cX8_note 25 = .ok (.ireturn, 1) := by decide +kernel
theorem dX8_note_26 : decode cX8_note 26 = .ok (.iload_n 3, 1) := by decide +kernel
theorem dX8_note_27 : decode cX8_note 27 = .ok (.iconst 0, 1) := by decide +kernel
theorem dX8_note_28 : decode cX8_note 28 = .ok (.bipush 40, 2) := by decide +kernel
theorem dX8_note_30 : decode cX8_note 30 = .ok (.invokestatic 66, 3) := by decide +kernel
theorem dX8_note_33 : decode cX8_note 33 = .ok (.ifCond .eq 14, 3) := by decide +kernel
theorem dX8_note_36 : decode cX8_note 36 = .ok (.iload 4, 2) := by decide +kernel
theorem dX8_note_38 : decode cX8_note 38 = .ok (.iconst 0, 1) := by decide +kernel
theorem dX8_note_39 : decode cX8_note 39 = .ok (.bipush 9, 2) := by decide +kernel
theorem dX8_note_41 : decode cX8_note 41 = .ok (.invokestatic 66, 3) := by decide +kernel
theorem dX8_note_44 : decode cX8_note 44 = .ok (.ifCond .ne 8, 3) := by decide +kernel
theorem dX8_note_47 : decode cX8_note 47 = .ok (.aload_n 0, 1) := by decide +kernel
theorem dX8_note_48 : decode cX8_note 48 = .ok (.invokevirtual 70, 3) := by decide +kernel
theorem dX8_note_51 : decode cX8_note 51 = .ok (.ireturn, 1) := by decide +kernel
theorem dX8_note_52 : decode cX8_note 52 = .ok (.aload_n 0, 1) := by decide +kernel
theorem dX8_note_53 : decode cX8_note 53 = .ok (.getfield 12, 3) := by decide +kernel
theorem dX8_note_56 : decode cX8_note 56 = .ok (.getfield 240, 3) := by decide +kernel
theorem dX8_note_59 : decode cX8_note 59 = .ok (.bipush 6, 2) := by decide +kernel
theorem dX8_note_61 : decode cX8_note 61 = .ok (.if_icmp .lt 8, 3) := by decide +kernel
theorem dX8_note_64 : decode cX8_note 64 = .ok (.aload_n 0, 1) := by decide +kernel
theorem dX8_note_65 : decode cX8_note 65 = .ok (.invokevirtual 91, 3) := by decide +kernel
theorem dX8_note_68 : decode cX8_note 68 = .ok (.ireturn, 1) := by decide +kernel
theorem dX8_note_69 : decode cX8_note 69 = .ok (.aload_n 0, 1) := by decide +kernel
theorem dX8_note_70 : decode cX8_note 70 = .ok (.getfield 12, 3) := by decide +kernel
theorem dX8_note_73 : decode cX8_note 73 = .ok (.iload_n 1, 1) := by decide +kernel
theorem dX8_note_74 : decode cX8_note 74 = .ok (.iload_n 2, 1) := by decide +kernel
theorem dX8_note_75 : decode cX8_note 75 = .ok (.iload_n 3, 1) := by decide +kernel
theorem dX8_note_76 : decode cX8_note 76 = .ok (.iload 4, 2) := by decide +kernel
theorem dX8_note_78 : decode cX8_note 78 = .ok (.invokevirtual 243, 3) := by decide +kernel
theorem dX8_note_81 : decode cX8_note 81 = .ok (.aload_n 0, 1) := by decide +kernel
theorem dX8_note_82 : decode cX8_note 82 = .ok (.getfield 12, 3) := by decide +kernel
theorem dX8_note_85 : decode cX8_note 85 = .ok (.getfield 240, 3) := by decide +kernel
theorem dX8_note_88 : decode cX8_note 88 = .ok (.ireturn, 1) := by decide +kernel
theorem dX8_forget_0 : decode cX8_forget 0 = .ok (.aload_n 0, 1) := by decide +kernel
theorem dX8_forget_1 : decode cX8_forget 1 = .ok (.getfield 12, 3) := by decide +kernel
theorem dX8_forget_4 : decode cX8_forget 4 = .ok (.getfield 240, 3) := by decide +kernel
theorem dX8_forget_7 : decode cX8_forget 7 = .ok (.istore_n 1, 1) := by decide +kernel
theorem dX8_forget_8 : decode cX8_forget 8 = .ok (.aload_n 0, 1) := by decide +kernel
theorem dX8_forget_9 : decode cX8_forget 9 = .ok (.getfield 12, 3) := by decide +kernel
theorem dX8_forget_12 : decode cX8_forget 12 = .ok (.iconst 0, 1) := by decide +kernel
theorem dX8_forget_13 : decode cX8_forget 13 = .ok (.putfield 240, 3) := by decide +kernel
theorem dX8_forget_16 : decode cX8_forget 16 = .ok (.iload_n 1, 1) := by decide +kernel
theorem dX8_forget_17 : decode cX8_forget 17 = .ok (.ireturn, 1) := by decide +kernel
theorem dX8_is_0 : decode cX8_is 0 = .ok (.aload_n 0, 1) := by decide +kernel
theorem dX8_is_1 : decode cX8_is 1 = .ok (.getfield 12, 3) := by decide +kernel
theorem dX8_is_4 : decode cX8_is 4 = .ok (.iload_n 1, 1) := by decide +kernel
theorem dX8_is_5 : decode cX8_is 5 = .ok (.invokevirtual 162, 3) := by decide +kernel
theorem dX8_is_8 : decode cX8_is 8 = .ok (.ifCond .ne 8, 3) := by decide +kernel
theorem dX8_is_11 : decode cX8_is 11 = .ok (.aload_n 0, 1) := by decide +kernel
theorem dX8_is_12 : decode cX8_is 12 = .ok (.invokevirtual 70, 3) := by decide +kernel
theorem dX8_is_15 : decode cX8_is 15 = .ok (.ireturn, 1) := by decide +kernel
theorem dX8_is_16 : decode cX8_is 16 = .ok (.aload_n 0, 1) := by decide +kernel
theorem dX8_is_17 : decode cX8_is 17 = .ok (.getfield 12, 3) := by decide +kernel
theorem dX8_is_20 : decode cX8_is 20 = .ok (.iload_n 1, 1) := by decide +kernel
theorem dX8_is_21 : decode cX8_is 21 = .ok (.invokevirtual 246, 3) := by decide +kernel
theorem dX8_is_24 : decode cX8_is 24 = .ok (.ireturn, 1) := by decide +kernel
theorem dX8_look_0 : decode cX8_look 0 = .ok (.aload_n 0, 1) := by decide +kernel
theorem dX8_look_1 : decode cX8_look 1 = .ok (.getfield 12, 3) := by decide +kernel
theorem dX8_look_4 : decode cX8_look 4 = .ok (.iload_n 1, 1) := by decide +kernel
theorem dX8_look_5 : decode cX8_look 5 = .ok (.invokevirtual 162, 3) := by decide +kernel
theorem dX8_look_8 : decode cX8_look 8 = .ok (.ifCond .ne 8, 3) := by decide +kernel
theorem dX8_look_11 : decode cX8_look 11 = .ok (.aload_n 0, 1) := by decide +kernel
theorem dX8_look_12 : decode cX8_look 12 = .ok (.invokevirtual 70, 3) := by decide +kernel
theorem dX8_look_15 : decode cX8_look 15 = .ok (.ireturn, 1) := by decide +kernel
theorem dX8_look_16 : decode cX8_look 16 = .ok (.aload_n 0, 1) := by decide +kernel
theorem dX8_look_17 : decode cX8_look 17 = .ok (.getfield 12, 3) := by decide +kernel
theorem dX8_look_20 : decode cX8_look 20 = .ok (.iload_n 1, 1) := by decide +kernel
theorem dX8_look_21 : decode cX8_look 21 = .ok (.invokevirtual 246, 3) := by decide +kernel
theorem dX8_look_24 : decode cX8_look 24 = .ok (.aload_n 0, 1) := by decide +kernel
theorem dX8_look_25 : decode cX8_look 25 = .ok (.getfield 12, 3) := by decide +kernel
theorem dX8_look_28 : decode cX8_look 28 = .ok (.getfield 181, 3) := by decide +kernel
theorem dX8_look_31 : decode cX8_look 31 = .ok (.iload_n 1, 1) := by decide +kernel
theorem dX8_look_32 : decode cX8_look 32 = .ok (.iaload, 1) := by decide +kernel
theorem dX8_look_33 : decode cX8_look 33 = .ok (.invokestatic 249, 3) := by decide +kernel
theorem dX8_look_36 : decode cX8_look 36 = .ok (.ireturn, 1) := by decide +kernel
theorem dX8_fare_0 : decode cX8_fare 0 = .ok (.iload_n 1, 1) := by decide +kernel
theorem dX8_fare_1 : decode cX8_fare 1 = .ok (.iconst 1, 1) := by decide +kernel
theorem dX8_fare_2 : decode cX8_fare 2 = .ok (.bipush 60, 2) := by decide +kernel
theorem dX8_fare_4 : decode cX8_fare 4 = .ok (.invokestatic 66, 3) := by decide +kernel
theorem dX8_fare_7 : decode cX8_fare 7 = .ok (.ifCond .ne 8, 3) := by decide +kernel
theorem dX8_fare_10 : decode cX8_fare 10 = .ok (.aload_n 0, 1) := by decide +kernel
theorem dX8_fare_11 : decode cX8_fare 11 = .ok (.invokevirtual 70, 3) := by decide +kernel
theorem dX8_fare_14 : decode cX8_fare 14 = .ok (.ireturn, 1) := by decide +kernel
theorem dX8_fare_15 : decode cX8_fare 15 = .ok (.aload_n 0, 1) := by decide +kernel
theorem dX8_fare_16 : decode cX8_fare 16 = .ok (.getfield 27, 3) := by decide +kernel
theorem dX8_fare_19 : decode cX8_fare 19 = .ok (.aload_n 0, 1) := by decide +kernel
theorem dX8_fare_20 : decode cX8_fare 20 = .ok (.getfield 12, 3) := by decide +kernel
theorem dX8_fare_23 : decode cX8_fare 23 = .ok (.invokevirtual 200, 3) := by decide +kernel
theorem dX8_fare_26 : decode cX8_fare 26 = .ok (.aload_n 0, 1) := by decide +kernel
theorem dX8_fare_27 : decode cX8_fare 27 = .ok (.getfield 27, 3) := by decide +kernel
theorem dX8_fare_30 : decode cX8_fare 30 = .ok (.aload_n 0, 1) := by decide +kernel
theorem dX8_fare_31 : decode cX8_fare 31 = .ok (.getfield 12, 3) := by decide +kernel
theorem dX8_fare_34 : decode cX8_fare 34 = .ok (.bipush 9, 2) := by decide +kernel
theorem dX8_fare_36 : decode cX8_fare 36 = .ok (.invokevirtual 203, 3) := by decide +kernel
theorem dX8_fare_39 : decode cX8_fare 39 = .ok (.aload_n 0, 1) := by decide +kernel
theorem dX8_fare_40 : decode cX8_fare 40 = .ok (.getfield 55, 3) := by decide +kernel
theorem dX8_fare_43 : decode cX8_fare 43 = .ok (.aload_n 0, 1) := by decide +kernel
theorem dX8_fare_44 : decode cX8_fare 44 = .ok (.getfield 27, 3) := by decide +kernel
theorem dX8_fare_47 : decode cX8_fare 47 = .ok (.getfield 207, 3) := by decide +kernel
theorem dX8_fare_50 : decode cX8_fare 50 = .ok (.getfield 149, 3) := by decide +kernel
theorem dX8_fare_53 : decode cX8_fare 53 = .ok (.i2l, 1) := by decide +kernel
theorem dX8_fare_54 : decode cX8_fare 54 = .ok (.iload_n 1, 1) := by decide +kernel
theorem dX8_fare_55 : decode cX8_fare 55 = .ok (.i2l, 1) := by decide +kernel
theorem dX8_fare_56 : decode cX8_fare 56 = .ok (.invokevirtual 252, 3) := by decide +kernel
theorem dX8_fare_59 : decode cX8_fare 59 = .ok (.iconst 1, 1) := by decide +kernel
theorem dX8_fare_60 : decode cX8_fare 60 = .ok (.ireturn, 1) := by decide +kernel
theorem dX8_two_0 : decode cX8_two 0 = .ok (.aload_n 0, 1) := by decide +kernel
theorem dX8_two_1 : decode cX8_two 1 = .ok (.getfield 12, 3) := by decide +kernel
theorem dX8_two_4 : decode cX8_two 4 = .ok (.iload_n 1, 1) := by decide +kernel
theorem dX8_two_5 : decode cX8_two 5 = .ok (.iload_n 2, 1) := by decide +kernel
theorem dX8_two_6 : decode cX8_two 6 = .ok (.invokevirtual 98, 3) := by decide +kernel
theorem dX8_two_9 : decode cX8_two 9 = .ok (.ifCond .eq 8, 3) := by decide +kernel
theorem dX8_two_12 : decode cX8_two 12 = .ok (.iload_n 3, 1) := by decide +kernel
theorem dX8_two_13 : decode cX8_two 13 = .ok (.iconst (-1), 1) := by decide +kernel
theorem dX8_two_14 : decode cX8_two 14 = .ok (.if_icmp .ge 8, 3) := by decide +kernel
theorem dX8_two_17 : decode cX8_two 17 = .ok (.aload_n 0, 1) := by decide +kernel
theorem dX8_two_18 : decode cX8_two 18 = .ok (.invokevirtual 211, 3) := by decide +kernel
theorem dX8_two_21 : decode cX8_two 21 = .ok (.ireturn, 1) := by decide +kernel
theorem dX8_two_22 : decode cX8_two 22 = .ok (.aload_n 0, 1) := by decide +kernel
theorem dX8_two_23 : decode cX8_two 23 = .ok (.getfield 48, 3) := by decide +kernel
theorem dX8_two_26 : decode cX8_two 26 = .ok (.aload_n 0, 1) := by decide +kernel
theorem dX8_two_27 : decode cX8_two 27 = .ok (.getfield 12, 3) := by decide +kernel
theorem dX8_two_30 : decode cX8_two 30 = .ok (.aload_n 0, 1) := by decide +kernel
theorem dX8_two_31 : decode cX8_two 31 = .ok (.getfield 27, 3) := by decide +kernel
theorem dX8_two_34 : decode cX8_two 34 = .ok (.iload_n 1, 1) := by decide +kernel
theorem dX8_two_35 : decode cX8_two 35 = .ok (.iload_n 2, 1) := by decide +kernel
theorem dX8_two_36 : decode cX8_two 36 = .ok (.invokevirtual 256, 3) := by decide +kernel
theorem dX8_two_39 : decode cX8_two 39 = .ok (.iload_n 3, 1) := by decide +kernel
theorem dX8_two_40 : decode cX8_two 40 = .ok (.iconst (-1), 1) := by decide +kernel
theorem dX8_two_41 : decode cX8_two 41 = .ok (.if_icmp .ne 11, 3) := by decide +kernel
theorem dX8_two_44 : decode cX8_two 44 = .ok (.aload_n 0, 1) := by decide +kernel
theorem dX8_two_45 : decode cX8_two 45 = .ok (.getfield 48, 3) := by decide +kernel
theorem dX8_two_48 : decode cX8_two 48 = .ok (.invokevirtual 260, 3) := by decide +kernel
theorem dX8_two_51 : decode cX8_two 51 = .ok (.ireturn, 1) := by decide +kernel
theorem dX8_two_52 : decode cX8_two 52 = .ok (.aload_n 0, 1) := by decide +kernel
theorem dX8_two_53 : decode cX8_two 53 = .ok (.getfield 48, 3) := by decide +kernel
theorem dX8_two_56 : decode cX8_two 56 = .ok (.iload_n 3, 1) := by decide +kernel
theorem dX8_two_57 : decode cX8_two 57 = .ok (.invokevirtual 263, 3) := by decide +kernel
theorem dX8_two_60 : decode cX8_two 60 = .ok (.ireturn, 1) := by decide +kernel
theorem dX8_bell_0 : decode cX8_bell 0 = .ok (.iload_n 1, 1) := by decide +kernel
theorem dX8_bell_1 : decode cX8_bell 1 = .ok (.iconst 0, 1) := by decide +kernel
theorem dX8_bell_2 : decode cX8_bell 2 = .ok (.bipush 10, 2) := by decide +kernel
theorem dX8_bell_4 : decode cX8_bell 4 = .ok (.invokestatic 66, 3) := by decide +kernel
theorem dX8_bell_7 : decode cX8_bell 7 = .ok (.ifCond .ne 8, 3) := by decide +kernel
theorem dX8_bell_10 : decode cX8_bell 10 = .ok (.aload_n 0, 1) := by decide +kernel
theorem dX8_bell_11 : decode cX8_bell 11 = .ok (.invokevirtual 70, 3) := by decide +kernel
theorem dX8_bell_14 : decode cX8_bell 14 = .ok (.ireturn, 1) := by decide +kernel
theorem dX8_bell_15 : decode cX8_bell 15 = .ok (.aload_n 0, 1) := by decide +kernel
theorem dX8_bell_16 : decode cX8_bell 16 = .ok (.getfield 12, 3) := by decide +kernel
theorem dX8_bell_19 : decode cX8_bell 19 = .ok (.getfield 137, 3) := by decide +kernel
theorem dX8_bell_22 : decode cX8_bell 22 = .ok (.getfield 141, 3) := by decide +kernel
theorem dX8_bell_25 : decode cX8_bell 25 = .ok (.bipush 9, 2) := by decide +kernel
theorem dX8_bell_27 : decode cX8_bell 27 = .ok (.invokestatic 266, 3) := by decide +kernel
theorem dX8_bell_30 : decode cX8_bell 30 = .ok (.istore_n 2, 1) := by decide +kernel
theorem dX8_bell_31 : decode cX8_bell 31 = .ok (.aload_n 0, 1) := by decide +kernel
theorem dX8_bell_32 : decode cX8_bell 32 = .ok (.getfield 55, 3) := by decide +kernel
theorem dX8_bell_35 : decode cX8_bell 35 = .ok (.aload_n 0, 1) := by decide +kernel
theorem dX8_bell_36 : decode cX8_bell 36 = .ok (.getfield 12, 3) := by decide +kernel
theorem dX8_bell_39 : decode cX8_bell 39 = .ok (.aload_n 0, 1) := by decide +kernel
theorem dX8_bell_40 : decode cX8_bell 40 = .ok (.getfield 12, 3) := by decide +kernel
theorem dX8_bell_43 : decode cX8_bell 43 = .ok (.getfield 137, 3) := by decide +kernel
theorem dX8_bell_46 : decode cX8_bell 46 = .ok (.getfield 166, 3) := by decide +kernel
theorem dX8_bell_49 : decode cX8_bell 49 = .ok (.iload_n 2, 1) := by decide +kernel
theorem dX8_bell_50 : decode cX8_bell 50 = .ok (.invokevirtual 208, 3) := by decide +kernel
theorem dX8_bell_53 : decode cX8_bell 53 = .ok (.i2l, 1) := by decide +kernel
theorem dX8_bell_54 : decode cX8_bell 54 = .ok (.bipush 10, 2) := by decide +kernel
theorem dX8_bell_56 : decode cX8_bell 56 = .ok (.iload_n 1, 1) := by decide +kernel
theorem dX8_bell_57 : decode cX8_bell 57 = .ok (.isub, 1) := by decide +kernel
theorem dX8_bell_58 : decode cX8_bell 58 = .ok (.i2l, 1) := by decide +kernel
theorem dX8_bell_59 : decode cX8_bell 59 = .ok (.lmul, 1) := by decide +kernel
theorem dX8_bell_60 : decode cX8_bell 60 = .ok (.ldc2_w 271, 3) := by decide +kernel
theorem dX8_bell_63 : decode cX8_bell 63 = .ok (.invokevirtual 252, 3) := by decide +kernel
theorem dX8_bell_66 : decode cX8_bell 66 = .ok (.iconst 1, 1) := by decide +kernel
theorem dX8_bell_67 : decode cX8_bell 67 = .ok (.ireturn, 1) := by decide +kernel
theorem dX8_days_0 : decode cX8_days 0 = .ok (.iload_n 1, 1) := by decide +kernel
theorem dX8_days_1 : decode cX8_days 1 = .ok (.iconst 0, 1) := by decide +kernel
theorem dX8_days_2 : decode cX8_days 2 = .ok (.ldc_w 273, 3) := by decide +kernel
theorem dX8_days_5 : decode cX8_days 5 = .ok (.invokestatic 66, 3) := by decide +kernel
theorem dX8_days_8 : decode cX8_days 8 = .ok (.ifCond .eq 13, 3) := by decide +kernel
theorem dX8_days_11 : decode cX8_days 11 = .ok (.iload_n 2, 1) := by decide +kernel
theorem dX8_days_12 : decode cX8_days 12 = .ok (.iconst 0, 1) := by decide +kernel
theorem dX8_days_13 : decode cX8_days 13 = .ok (.bipush 60, 2) := by decide +kernel
theorem dX8_days_15 : decode cX8_days 15 = .ok (.invokestatic 66, 3) := by decide +kernel
theorem dX8_days_18 : decode cX8_days 18 = .ok (.ifCond .ne 8, 3) := by decide +kernel
theorem dX8_days_21 : decode cX8_days 21 = .ok (.aload_n 0, 1) := by decide +kernel
theorem dX8_days_22 : decode cX8_days 22 = .ok (.invokevirtual 70, 3) := by decide +kernel
theorem dX8_days_25 : decode cX8_days 25 = .ok (.ireturn, 1) := by decide +kernel
theorem dX8_days_26 : decode cX8_days 26 = .ok (.aload_n 0, 1) := by decide +kernel
theorem dX8_days_27 : decode cX8_days 27 = .ok (.getfield 27, 3) := by decide +kernel
theorem dX8_days_30 : decode cX8_days 30 = .ok (.aload_n 0, 1) := by decide +kernel
theorem dX8_days_31 : decode cX8_days 31 = .ok (.getfield 12, 3) := by decide +kernel
theorem dX8_days_34 : decode cX8_days 34 = .ok (.iload_n 1, 1) := by decide +kernel
theorem dX8_days_35 : decode cX8_days 35 = .ok (.iload_n 2, 1) := by decide +kernel
theorem dX8_days_36 : decode cX8_days 36 = .ok (.invokevirtual 274, 3) := by decide +kernel
theorem dX8_days_39 : decode cX8_days 39 = .ok (.ireturn, 1) := by decide +kernel
theorem dX8_part_0 : decode cX8_part 0 = .ok (.iload_n 1, 1) := by decide +kernel
theorem dX8_part_1 : decode cX8_part 1 = .ok (.lookupswitch 43 #[(0, 27), (1, 35)], 27) := by decide +kernel
theorem dX8_part_28 : decode cX8_part 28 = .ok (.aload_n 0, 1) := by decide +kernel
theorem dX8_part_29 : decode cX8_part 29 = .ok (.getfield 55, 3) := by decide +kernel
theorem dX8_part_32 : decode cX8_part 32 = .ok (.getfield 278, 3) := by decide +kernel
theorem dX8_part_35 : decode cX8_part 35 = .ok (.lreturn, 1) := by decide +kernel
theorem dX8_part_36 : decode cX8_part 36 = .ok (.aload_n 0, 1) := by decide +kernel
theorem dX8_part_37 : decode cX8_part 37 = .ok (.getfield 55, 3) := by decide +kernel
theorem dX8_part_40 : decode cX8_part 40 = .ok (.getfield 282, 3) := by decide +kernel
theorem dX8_part_43 : decode cX8_part 43 = .ok (.lreturn, 1) := by decide +kernel
theorem dX8_part_44 : decode cX8_part 44 = .ok (.aload_n 0, 1) := by decide +kernel
theorem dX8_part_45 : decode cX8_part 45 = .ok (.invokevirtual 70, 3) := by decide +kernel
theorem dX8_part_48 : decode cX8_part 48 = .ok (.i2l, 1) := by decide +kernel
theorem dX8_part_49 : decode cX8_part 49 = .ok (.lreturn, 1) := by decide +kernel
theorem dX8_image_0 : decode cX8_image 0 = .ok (.iload_n 1, 1) := by decide +kernel
theorem dX8_image_1 : decode cX8_image 1 = .ok (.iconst 0, 1) := by decide +kernel
theorem dX8_image_2 : decode cX8_image 2 = .ok (.iconst 1, 1) := by decide +kernel
theorem dX8_image_3 : decode cX8_image 3 = .ok (.invokestatic 66, 3) := by decide +kernel
theorem dX8_image_6 : decode cX8_image 6 = .ok (.ifCond .ne 8, 3) := by decide +kernel
theorem dX8_image_9 : decode cX8_image 9 = .ok (.aload_n 0, 1) := by decide +kernel
theorem dX8_image_10 : decode cX8_image 10 = .ok (.invokevirtual 70, 3) := by decide +kernel
theorem dX8_image_13 : decode cX8_image 13 = .ok (.ireturn, 1) := by decide +kernel
theorem dX8_image_14 : decode cX8_image 14 = .ok (.aload_n 0, 1) := by decide +kernel
theorem dX8_image_15 : decode cX8_image 15 = .ok (.getfield 16, 3) := by decide +kernel
theorem dX8_image_18 : decode cX8_image 18 = .ok (.iload_n 1, 1) := by decide +kernel
theorem dX8_image_19 : decode cX8_image 19 = .ok (.aaload, 1) := by decide +kernel
theorem dX8_image_20 : decode cX8_image 20 = .ok (.aload_n 0, 1) := by decide +kernel
theorem dX8_image_21 : decode cX8_image 21 = .ok (.getfield 12, 3) := by decide +kernel
theorem dX8_image_24 : decode cX8_image 24 = .ok (.invokevirtual 130, 3) := by decide +kernel
theorem dX8_image_27 : decode cX8_image 27 = .ok (.aload_n 0, 1) := by decide +kernel
theorem dX8_image_28 : decode cX8_image 28 = .ok (.getfield 20, 3) := by decide +kernel
theorem dX8_image_31 : decode cX8_image 31 = .ok (.iload_n 1, 1) := by decide +kernel
theorem dX8_image_32 : decode cX8_image 32 = .ok (.iconst 1, 1) := by decide +kernel
theorem dX8_image_33 : decode cX8_image 33 = .ok (.bastore, 1) := by decide +kernel
theorem dX8_image_34 : decode cX8_image 34 = .ok (.iconst 1, 1) := by decide +kernel
theorem dX8_image_35 : decode cX8_image 35 = .ok (.ireturn, 1) := by decide +kernel
theorem dX8_from_0 : decode cX8_from 0 = .ok (.iload_n 1, 1) := by decide +kernel
theorem dX8_from_1 : decode cX8_from 1 = .ok (.iconst 0, 1) := by decide +kernel
theorem dX8_from_2 : decode cX8_from 2 = .ok (.iconst 1, 1) := by decide +kernel
theorem dX8_from_3 : decode cX8_from 3 = .ok (.invokestatic 66, 3) := by decide +kernel
theorem dX8_from_6 : decode cX8_from 6 = .ok (.ifCond .ne 8, 3) := by decide +kernel
theorem dX8_from_9 : decode cX8_from 9 = .ok (.aload_n 0, 1) := by decide +kernel
theorem dX8_from_10 : decode cX8_from 10 = .ok (.invokevirtual 70, 3) := by decide +kernel
theorem dX8_from_13 : decode cX8_from 13 = .ok (.ireturn, 1) := by decide +kernel
theorem dX8_from_14 : decode cX8_from 14 = .ok (.aload_n 0, 1) := by decide +kernel
theorem dX8_from_15 : decode cX8_from 15 = .ok (.getfield 20, 3) := by decide +kernel
theorem dX8_from_18 : decode cX8_from 18 = .ok (.iload_n 1, 1) := by decide +kernel
theorem dX8_from_19 : decode cX8_from 19 = .ok (.baload, 1) := by decide +kernel
theorem dX8_from_20 : decode cX8_from 20 = .ok (.ifCond .ne 8, 3) := by decide +kernel
theorem dX8_from_23 : decode cX8_from 23 = .ok (.aload_n 0, 1) := by decide +kernel
theorem dX8_from_24 : decode cX8_from 24 = .ok (.invokevirtual 146, 3) := by decide +kernel
theorem dX8_from_27 : decode cX8_from 27 = .ok (.ireturn, 1) := by decide +kernel
theorem dX8_from_28 : decode cX8_from 28 = .ok (.aload_n 0, 1) := by decide +kernel
theorem dX8_from_29 : decode cX8_from 29 = .ok (.getfield 12, 3) := by decide +kernel
theorem dX8_from_32 : decode cX8_from 32 = .ok (.aload_n 0, 1) := by decide +kernel
theorem dX8_from_33 : decode cX8_from 33 = .ok (.getfield 16, 3) := by decide +kernel
theorem dX8_from_36 : decode cX8_from 36 = .ok (.iload_n 1, 1) := by decide +kernel
theorem dX8_from_37 : decode cX8_from 37 = .ok (.aaload, 1) := by decide +kernel
theorem dX8_from_38 : decode cX8_from 38 = .ok (.invokevirtual 130, 3) := by decide +kernel
theorem dX8_from_41 : decode cX8_from 41 = .ok (.iconst 1, 1) := by decide +kernel
theorem dX8_from_42 : decode cX8_from 42 = .ok (.ireturn, 1) := by decide +kernel
theorem dX8_status_0 : decode cX8_status 0 = .ok (.iload_n 1, 1) := by decide +kernel
theorem dX8_status_1 : decode cX8_status 1 = .ok (.tableswitch 42 0 2 #[27, 32, 37], 27) := by decide +kernel
theorem dX8_status_28 : decode cX8_status 28 = .ok (.aload_n 0, 1) := by decide +kernel
theorem dX8_status_29 : decode cX8_status 29 = .ok (.getfield 285, 3) := by decide +kernel
theorem dX8_status_32 : decode cX8_status 32 = .ok (.ireturn, 1) := by decide +kernel
theorem dX8_status_33 : decode cX8_status 33 = .ok (.aload_n 0, 1) := by decide +kernel
theorem dX8_status_34 : decode cX8_status 34 = .ok (.getfield 288, 3) := by decide +kernel
theorem dX8_status_37 : decode cX8_status 37 = .ok (.ireturn, 1) := by decide +kernel
theorem dX8_status_38 : decode cX8_status 38 = .ok (.aload_n 0, 1) := by decide +kernel
theorem dX8_status_39 : decode cX8_status 39 = .ok (.getfield 291, 3) := by decide +kernel
theorem dX8_status_42 : decode cX8_status 42 = .ok (.ireturn, 1) := by decide +kernel
theorem dX8_status_43 : decode cX8_status 43 = .ok (.aload_n 0, 1) := by decide +kernel
theorem dX8_status_44 : decode cX8_status 44 = .ok (.invokevirtual 70, 3) := by decide +kernel
theorem dX8_status_47 : decode cX8_status 47 = .ok (.pop, 1) := by decide +kernel
theorem dX8_status_48 : decode cX8_status 48 = .ok (.iconst (-1), 1) := by decide +kernel
theorem dX8_status_49 : decode cX8_status 49 = .ok (.ireturn, 1) := by decide +kernel
theorem dX8_count_0 : decode cX8_count 0 = .ok (.iload_n 1, 1) := by decide +kernel
theorem dX8_count_1 : decode cX8_count 1 = .ok (.tableswitch 99 0 6 #[43, 51, 59, 67, 75, 83, 91], 43) := by decide +kernel
theorem dX8_count_44 : decode cX8_count 44 = .ok (.aload_n 0, 1) := by decide +kernel
theorem dX8_count_45 : decode cX8_count 45 = .ok (.getfield 12, 3) := by decide +kernel
theorem dX8_count_48 : decode cX8_count 48 = .ok (.getfield 74, 3) := by decide +kernel
theorem dX8_count_51 : decode cX8_count 51 = .ok (.ireturn, 1) := by decide +kernel
theorem dX8_count_52 : decode cX8_count 52 = .ok (.aload_n 0, 1) := by decide +kernel
theorem dX8_count_53 : decode cX8_count 53 = .ok (.getfield 12, 3) := by decide +kernel
theorem dX8_count_56 : decode cX8_count 56 = .ok (.getfield 81, 3) := by decide +kernel
theorem dX8_count_59 : decode cX8_count 59 = .ok (.ireturn, 1) := by decide +kernel
theorem dX8_count_60 : decode cX8_count 60 = .ok (.aload_n 0, 1) := by decide +kernel
theorem dX8_count_61 : decode cX8_count 61 = .ok (.getfield 12, 3) := by decide +kernel
theorem dX8_count_64 : decode cX8_count 64 = .ok (.invokevirtual 294, 3) := by decide +kernel
theorem dX8_count_67 : decode cX8_count 67 = .ok (.ireturn, 1) := by decide +kernel
theorem dX8_count_68 : decode cX8_count 68 = .ok (.aload_n 0, 1) := by decide +kernel
theorem dX8_count_69 : decode cX8_count 69 = .ok (.getfield 12, 3) := by decide +kernel
theorem dX8_count_72 : decode cX8_count 72 = .ok (.invokevirtual 297, 3) := by decide +kernel
theorem dX8_count_75 : decode cX8_count 75 = .ok (.ireturn, 1) := by decide +kernel
theorem dX8_count_76 : decode cX8_count 76 = .ok (.aload_n 0, 1) := by decide +kernel
theorem dX8_count_77 : decode cX8_count 77 = .ok (.getfield 12, 3) := by decide +kernel
theorem dX8_count_80 : decode cX8_count 80 = .ok (.getfield 240, 3) := by decide +kernel
theorem dX8_count_83 : decode cX8_count 83 = .ok (.ireturn, 1) := by decide +kernel
theorem dX8_count_84 : decode cX8_count 84 = .ok (.aload_n 0, 1) := by decide +kernel
theorem dX8_count_85 : decode cX8_count 85 = .ok (.getfield 12, 3) := by decide +kernel
theorem dX8_count_88 : decode cX8_count 88 = .ok (.getfield 84, 3) := by decide +kernel
theorem dX8_count_91 : decode cX8_count 91 = .ok (.ireturn, 1) := by decide +kernel
theorem dX8_count_92 : decode cX8_count 92 = .ok (.aload_n 0, 1) := by decide +kernel
theorem dX8_count_93 : decode cX8_count 93 = .ok (.getfield 62, 3) := by decide +kernel
theorem dX8_count_96 : decode cX8_count 96 = .ok (.getfield 113, 3) := by decide +kernel
theorem dX8_count_99 : decode cX8_count 99 = .ok (.ireturn, 1) := by decide +kernel
theorem dX8_count_100 : decode cX8_count 100 = .ok (.aload_n 0, 1) := by decide +kernel
theorem dX8_count_101 : decode cX8_count 101 = .ok (.invokevirtual 70, 3) := by decide +kernel
theorem dX8_count_104 : decode cX8_count 104 = .ok (.ireturn, 1) := by decide +kernel
theorem dX8_digest_0 : decode cX8_digest 0 = .ok (.ldc2_w 300, 3) := by decide +kernel
theorem dX8_digest_3 : decode cX8_digest 3 = .ok (.lstore_n 1, 1) := by decide +kernel
theorem dX8_digest_4 : decode cX8_digest 4 = .ok (.iconst 0, 1) := by decide +kernel
theorem dX8_digest_5 : decode cX8_digest 5 = .ok (.istore_n 3, 1) := by decide +kernel
theorem dX8_digest_6 : decode cX8_digest 6 = .ok (.iload_n 3, 1) := by decide +kernel
theorem dX8_digest_7 : decode cX8_digest 7 = .ok (.bipush 6, 2) := by decide +kernel
theorem dX8_digest_9 : decode cX8_digest 9 = .ok (.if_icmp .gt 22, 3) := by decide +kernel
theorem dX8_digest_12 : decode cX8_digest 12 = .ok (.ldc2_w 302, 3) := by decide +kernel
theorem dX8_digest_15 : decode cX8_digest 15 = .ok (.lload_n 1, 1) := by decide +kernel
theorem dX8_digest_16 : decode cX8_digest 16 = .ok (.lmul, 1) := by decide +kernel
theorem dX8_digest_17 : decode cX8_digest 17 = .ok (.aload_n 0, 1) := by decide +kernel
theorem dX8_digest_18 : decode cX8_digest 18 = .ok (.iload_n 3, 1) := by decide +kernel
theorem dX8_digest_19 : decode cX8_digest 19 = .ok (.invokevirtual 304, 3) := by decide +kernel
theorem dX8_digest_22 : decode cX8_digest 22 = .ok (.i2l, 1) := by decide +kernel
theorem dX8_digest_23 : decode cX8_digest 23 = .ok (.ladd, 1) := by decide +kernel
theorem dX8_digest_24 : decode cX8_digest 24 = .ok (.lstore_n 1, 1) := by decide +kernel
theorem dX8_digest_25 : decode cX8_digest 25 = .ok (.iinc 3 1, 3) := by decide +kernel
theorem dX8_digest_28 : decode cX8_digest 28 = .ok (.goto (-22), 3) := by decide +kernel
theorem dX8_digest_31 : decode cX8_digest 31 = .ok (.iconst 0, 1) := by decide +kernel
theorem dX8_digest_32 : decode cX8_digest 32 = .ok (.istore_n 3, 1) := by decide +kernel
theorem dX8_digest_33 : decode cX8_digest 33 = .ok (.iload_n 3, 1) := by decide +kernel
theorem dX8_digest_34 : decode cX8_digest 34 = .ok (.iconst 4, 1) := by decide +kernel
theorem dX8_digest_35 : decode cX8_digest 35 = .ok (.if_icmp .gt 22, 3) := by decide +kernel
theorem dX8_digest_38 : decode cX8_digest 38 = .ok (.ldc2_w 302, 3) := by decide +kernel
theorem dX8_digest_41 : decode cX8_digest 41 = .ok (.lload_n 1, 1) := by decide +kernel
theorem dX8_digest_42 : decode cX8_digest 42 = .ok (.lmul, 1) := by decide +kernel
theorem dX8_digest_43 : decode cX8_digest 43 = .ok (.aload_n 0, 1) := by decide +kernel
theorem dX8_digest_44 : decode cX8_digest 44 = .ok (.iload_n 3, 1) := by decide +kernel
theorem dX8_digest_45 : decode cX8_digest 45 = .ok (.invokevirtual 307, 3) := by decide +kernel
theorem dX8_digest_48 : decode cX8_digest 48 = .ok (.i2l, 1) := by decide +kernel
theorem dX8_digest_49 : decode cX8_digest 49 = .ok (.ladd, 1) := by decide +kernel
theorem dX8_digest_50 : decode cX8_digest 50 = .ok (.lstore_n 1, 1) := by decide +kernel
theorem dX8_digest_51 : decode cX8_digest 51 = .ok (.iinc 3 1, 3) := by decide +kernel
theorem dX8_digest_54 : decode cX8_digest 54 = .ok (.goto (-21), 3) := by decide +kernel
theorem dX8_digest_57 : decode cX8_digest 57 = .ok (.aload_n 0, 1) := by decide +kernel
theorem dX8_digest_58 : decode cX8_digest 58 = .ok (.getfield 12, 3) := by decide +kernel
theorem dX8_digest_61 : decode cX8_digest 61 = .ok (.lload_n 1, 1) := by decide +kernel
theorem dX8_digest_62 : decode cX8_digest 62 = .ok (.invokevirtual 310, 3) := by decide +kernel
theorem dX8_digest_65 : decode cX8_digest 65 = .ok (.lstore_n 1, 1) := by decide +kernel
theorem dX8_digest_66 : decode cX8_digest 66 = .ok (.ldc2_w 302, 3) := by decide +kernel
theorem dX8_digest_69 : decode cX8_digest 69 = .ok (.lload_n 1, 1) := by decide +kernel
theorem dX8_digest_70 : decode cX8_digest 70 = .ok (.lmul, 1) := by decide +kernel
theorem dX8_digest_71 : decode cX8_digest 71 = .ok (.aload_n 0, 1) := by decide +kernel
theorem dX8_digest_72 : decode cX8_digest 72 = .ok (.getfield 55, 3) := by decide +kernel
theorem dX8_digest_75 : decode cX8_digest 75 = .ok (.getfield 278, 3) := by decide +kernel
theorem dX8_digest_78 : decode cX8_digest 78 = .ok (.ladd, 1) := by decide +kernel
theorem dX8_digest_79 : decode cX8_digest 79 = .ok (.lstore_n 1, 1) := by decide +kernel
theorem dX8_digest_80 : decode cX8_digest 80 = .ok (.ldc2_w 302, 3) := by decide +kernel
theorem dX8_digest_83 : decode cX8_digest 83 = .ok (.lload_n 1, 1) := by decide +kernel
theorem dX8_digest_84 : decode cX8_digest 84 = .ok (.lmul, 1) := by decide +kernel
theorem dX8_digest_85 : decode cX8_digest 85 = .ok (.aload_n 0, 1) := by decide +kernel
theorem dX8_digest_86 : decode cX8_digest 86 = .ok (.getfield 55, 3) := by decide +kernel
theorem dX8_digest_89 : decode cX8_digest 89 = .ok (.getfield 282, 3) := by decide +kernel
theorem dX8_digest_92 : decode cX8_digest 92 = .ok (.ladd, 1) := by decide +kernel
theorem dX8_digest_93 : decode cX8_digest 93 = .ok (.lreturn, 1) := by decide +kernel
theorem dX8_refuseBad_0 : decode cX8_refuseBad 0 = .ok (.aload_n 0, 1) := by decide +kernel
theorem dX8_refuseBad_1 : decode cX8_refuseBad 1 = .ok (.dup, 1) := by decide +kernel
theorem dX8_refuseBad_2 : decode cX8_refuseBad 2 = .ok (.getfield 285, 3) := by decide +kernel
theorem dX8_refuseBad_5 : decode cX8_refuseBad 5 = .ok (.iconst 1, 1) := by decide +kernel
theorem dX8_refuseBad_6 : decode cX8_refuseBad 6 = .ok (.iadd, 1) := by decide +kernel
theorem dX8_refuseBad_7 : decode cX8_refuseBad 7 = .ok (.putfield 285, 3) := by decide +kernel
theorem dX8_refuseBad_10 : decode cX8_refuseBad 10 = .ok (.bipush (-2), 2) := by decide +kernel
theorem dX8_refuseBad_12 : decode cX8_refuseBad 12 = .ok (.ireturn, 1) := by decide +kernel
theorem dX8_refuseOtherBad_0 : decode cX8_refuseOtherBad 0 = .ok (.aload_n 0, 1) := by decide +kernel
theorem dX8_refuseOtherBad_1 : decode cX8_refuseOtherBad 1 = .ok (.dup, 1) := by decide +kernel
theorem dX8_refuseOtherBad_2 : decode cX8_refuseOtherBad 2 = .ok (.getfield 285, 3) := by decide +kernel
theorem dX8_refuseOtherBad_5 : decode cX8_refuseOtherBad 5 = .ok (.iconst 1, 1) := by decide +kernel
theorem dX8_refuseOtherBad_6 : decode cX8_refuseOtherBad 6 = .ok (.iadd, 1) := by decide +kernel
theorem dX8_refuseOtherBad_7 : decode cX8_refuseOtherBad 7 = .ok (.putfield 285, 3) := by decide +kernel
theorem dX8_refuseOtherBad_10 : decode cX8_refuseOtherBad 10 = .ok (.bipush (-10), 2) := by decide +kernel
theorem dX8_refuseOtherBad_12 : decode cX8_refuseOtherBad 12 = .ok (.ireturn, 1) := by decide +kernel
theorem dX8_refuseNo_0 : decode cX8_refuseNo 0 = .ok (.aload_n 0, 1) := by decide +kernel
theorem dX8_refuseNo_1 : decode cX8_refuseNo 1 = .ok (.dup, 1) := by decide +kernel
theorem dX8_refuseNo_2 : decode cX8_refuseNo 2 = .ok (.getfield 288, 3) := by decide +kernel
theorem dX8_refuseNo_5 : decode cX8_refuseNo 5 = .ok (.iconst 1, 1) := by decide +kernel
theorem dX8_refuseNo_6 : decode cX8_refuseNo 6 = .ok (.iadd, 1) := by decide +kernel
theorem dX8_refuseNo_7 : decode cX8_refuseNo 7 = .ok (.putfield 288, 3) := by decide +kernel
theorem dX8_refuseNo_10 : decode cX8_refuseNo 10 = .ok (.bipush (-3), 2) := by decide +kernel
theorem dX8_refuseNo_12 : decode cX8_refuseNo 12 = .ok (.ireturn, 1) := by decide +kernel
theorem dX8_refuseFull_0 : decode cX8_refuseFull 0 = .ok (.aload_n 0, 1) := by decide +kernel
theorem dX8_refuseFull_1 : decode cX8_refuseFull 1 = .ok (.dup, 1) := by decide +kernel
theorem dX8_refuseFull_2 : decode cX8_refuseFull 2 = .ok (.getfield 291, 3) := by decide +kernel
theorem dX8_refuseFull_5 : decode cX8_refuseFull 5 = .ok (.iconst 1, 1) := by decide +kernel
theorem dX8_refuseFull_6 : decode cX8_refuseFull 6 = .ok (.iadd, 1) := by decide +kernel
theorem dX8_refuseFull_7 : decode cX8_refuseFull 7 = .ok (.putfield 291, 3) := by decide +kernel
theorem dX8_refuseFull_10 : decode cX8_refuseFull 10 = .ok (.bipush (-4), 2) := by decide +kernel
theorem dX8_refuseFull_12 : decode cX8_refuseFull 12 = .ok (.ireturn, 1) := by decide +kernel
theorem dX8_within_0 : decode cX8_within 0 = .ok (.iload_n 0, 1) := by decide +kernel
theorem dX8_within_1 : decode cX8_within 1 = .ok (.iload_n 1, 1) := by decide +kernel
theorem dX8_within_2 : decode cX8_within 2 = .ok (.if_icmp .lt 12, 3) := by decide +kernel
theorem dX8_within_5 : decode cX8_within 5 = .ok (.iload_n 0, 1) := by decide +kernel
theorem dX8_within_6 : decode cX8_within 6 = .ok (.iload_n 2, 1) := by decide +kernel
theorem dX8_within_7 : decode cX8_within 7 = .ok (.if_icmp .gt 7, 3) := by decide +kernel
theorem dX8_within_10 : decode cX8_within 10 = .ok (.iconst 1, 1) := by decide +kernel
theorem dX8_within_11 : decode cX8_within 11 = .ok (.goto 4, 3) := by decide +kernel
theorem dX8_within_14 : decode cX8_within 14 = .ok (.iconst 0, 1) := by decide +kernel
theorem dX8_within_15 : decode cX8_within 15 = .ok (.ireturn, 1) := by decide +kernel
theorem dX8_bit_0 : decode cX8_bit 0 = .ok (.iload_n 0, 1) := by decide +kernel
theorem dX8_bit_1 : decode cX8_bit 1 = .ok (.iload_n 1, 1) := by decide +kernel
theorem dX8_bit_2 : decode cX8_bit 2 = .ok (.ishr, 1) := by decide +kernel
theorem dX8_bit_3 : decode cX8_bit 3 = .ok (.iconst 1, 1) := by decide +kernel
theorem dX8_bit_4 : decode cX8_bit 4 = .ok (.iand, 1) := by decide +kernel
theorem dX8_bit_5 : decode cX8_bit 5 = .ok (.ireturn, 1) := by decide +kernel
theorem dX8_swayOf_0 : decode cX8_swayOf 0 = .ok (.iload_n 1, 1) := by decide +kernel
theorem dX8_swayOf_1 : decode cX8_swayOf 1 = .ok (.istore_n 3, 1) := by decide +kernel
theorem dX8_swayOf_2 : decode cX8_swayOf 2 = .ok (.iload_n 3, 1) := by decide +kernel
theorem dX8_swayOf_3 : decode cX8_swayOf 3 = .ok (.iconst 1, 1) := by decide +kernel
theorem dX8_swayOf_4 : decode cX8_swayOf 4 = .ok (.iadd, 1) := by decide +kernel
theorem dX8_swayOf_5 : decode cX8_swayOf 5 = .ok (.iconst 2, 1) := by decide +kernel
theorem dX8_swayOf_6 : decode cX8_swayOf 6 = .ok (.idiv, 1) := by decide +kernel
theorem dX8_swayOf_7 : decode cX8_swayOf 7 = .ok (.istore 4, 2) := by decide +kernel
theorem dX8_swayOf_9 : decode cX8_swayOf 9 = .ok (.iload_n 0, 1) := by decide +kernel
theorem dX8_swayOf_10 : decode cX8_swayOf 10 = .ok (.tableswitch 61 0 4 #[34, 36, 39, 54, 56], 34) := by decide +kernel
theorem dX8_swayOf_44 : decode cX8_swayOf 44 = .ok (.iload_n 3, 1) := by decide +kernel
theorem dX8_swayOf_45 : decode cX8_swayOf 45 = .ok (.ireturn, 1) := by decide +kernel
theorem dX8_swayOf_46 : decode cX8_swayOf 46 = .ok (.iload 4, 2) := by decide +kernel
theorem dX8_swayOf_48 : decode cX8_swayOf 48 = .ok (.ireturn, 1) := by decide +kernel
theorem dX8_swayOf_49 : decode cX8_swayOf 49 = .ok (.iload_n 2, 1) := by decide +kernel
theorem dX8_swayOf_50 : decode cX8_swayOf 50 = .ok (.iconst 2, 1) := by decide +kernel
theorem dX8_swayOf_51 : decode cX8_swayOf 51 = .ok (.irem, 1) := by decide +kernel
theorem dX8_swayOf_52 : decode cX8_swayOf 52 = .ok (.iconst 1, 1) := by decide +kernel
theorem dX8_swayOf_53 : decode cX8_swayOf 53 = .ok (.if_icmp .ne 9, 3) := by decide +kernel
theorem dX8_swayOf_56 : decode cX8_swayOf 56 = .ok (.iconst 2, 1) := by decide +kernel
theorem dX8_swayOf_57 : decode cX8_swayOf 57 = .ok (.iload_n 3, 1) := by decide +kernel
theorem dX8_swayOf_58 : decode cX8_swayOf 58 = .ok (.imul, 1) := by decide +kernel
theorem dX8_swayOf_59 : decode cX8_swayOf 59 = .ok (.goto 4, 3) := by decide +kernel
theorem dX8_swayOf_62 : decode cX8_swayOf 62 = .ok (.iload_n 3, 1) := by decide +kernel
theorem dX8_swayOf_63 : decode cX8_swayOf 63 = .ok (.ireturn, 1) := by decide +kernel
theorem dX8_swayOf_64 : decode cX8_swayOf 64 = .ok (.iload_n 3, 1) := by decide +kernel
theorem dX8_swayOf_65 : decode cX8_swayOf 65 = .ok (.ireturn, 1) := by decide +kernel
theorem dX8_swayOf_66 : decode cX8_swayOf 66 = .ok (.iload 4, 2) := by decide +kernel
theorem dX8_swayOf_68 : decode cX8_swayOf 68 = .ok (.iconst 1, 1) := by decide +kernel
theorem dX8_swayOf_69 : decode cX8_swayOf 69 = .ok (.iadd, 1) := by decide +kernel
theorem dX8_swayOf_70 : decode cX8_swayOf 70 = .ok (.ireturn, 1) := by decide +kernel
theorem dX8_swayOf_71 : decode cX8_swayOf 71 = .ok (.iconst 0, 1) := by decide +kernel
theorem dX8_swayOf_72 : decode cX8_swayOf 72 = .ok (.ireturn, 1) := by decide +kernel
theorem dX8_tallOf_0 : decode cX8_tallOf 0 = .ok (.iconst 3, 1) := by decide +kernel
theorem dX8_tallOf_1 : decode cX8_tallOf 1 = .ok (.istore_n 2, 1) := by decide +kernel
theorem dX8_tallOf_2 : decode cX8_tallOf 2 = .ok (.iload_n 2, 1) := by decide +kernel
theorem dX8_tallOf_3 : decode cX8_tallOf 3 = .ok (.iconst 1, 1) := by decide +kernel
theorem dX8_tallOf_4 : decode cX8_tallOf 4 = .ok (.isub, 1) := by decide +kernel
theorem dX8_tallOf_5 : decode cX8_tallOf 5 = .ok (.istore_n 3, 1) := by decide +kernel
theorem dX8_tallOf_6 : decode cX8_tallOf 6 = .ok (.iload_n 2, 1) := by decide +kernel
theorem dX8_tallOf_7 : decode cX8_tallOf 7 = .ok (.iconst 2, 1) := by decide +kernel
theorem dX8_tallOf_8 : decode cX8_tallOf 8 = .ok (.iadd, 1) := by decide +kernel
theorem dX8_tallOf_9 : decode cX8_tallOf 9 = .ok (.istore 4, 2) := by decide +kernel
theorem dX8_tallOf_11 : decode cX8_tallOf 11 = .ok (.iload_n 0, 1) := by decide +kernel
theorem dX8_tallOf_12 : decode cX8_tallOf 12 = .ok (.tableswitch 51 0 4 #[36, 38, 40, 42, 45], 36) := by decide +kernel
theorem dX8_tallOf_48 : decode cX8_tallOf 48 = .ok (.iload_n 2, 1) := by decide +kernel
theorem dX8_tallOf_49 : decode cX8_tallOf 49 = .ok (.ireturn, 1) := by decide +kernel
theorem dX8_tallOf_50 : decode cX8_tallOf 50 = .ok (.iload_n 3, 1) := by decide +kernel
theorem dX8_tallOf_51 : decode cX8_tallOf 51 = .ok (.ireturn, 1) := by decide +kernel
theorem dX8_tallOf_52 : decode cX8_tallOf 52 = .ok (.iload_n 2, 1) := by decide +kernel
theorem dX8_tallOf_53 : decode cX8_tallOf 53 = .ok (.ireturn, 1) := by decide +kernel
theorem dX8_tallOf_54 : decode cX8_tallOf 54 = .ok (.iload 4, 2) := by decide +kernel
theorem dX8_tallOf_56 : decode cX8_tallOf 56 = .ok (.ireturn, 1) := by decide +kernel
theorem dX8_tallOf_57 : decode cX8_tallOf 57 = .ok (.iload_n 3, 1) := by decide +kernel
theorem dX8_tallOf_58 : decode cX8_tallOf 58 = .ok (.iload_n 1, 1) := by decide +kernel
theorem dX8_tallOf_59 : decode cX8_tallOf 59 = .ok (.iconst 3, 1) := by decide +kernel
theorem dX8_tallOf_60 : decode cX8_tallOf 60 = .ok (.idiv, 1) := by decide +kernel
theorem dX8_tallOf_61 : decode cX8_tallOf 61 = .ok (.iadd, 1) := by decide +kernel
theorem dX8_tallOf_62 : decode cX8_tallOf 62 = .ok (.ireturn, 1) := by decide +kernel
theorem dX8_tallOf_63 : decode cX8_tallOf 63 = .ok (.iload 4, 2) := by decide +kernel
theorem dX8_tallOf_65 : decode cX8_tallOf 65 = .ok (.iconst 1, 1) := by decide +kernel
theorem dX8_tallOf_66 : decode cX8_tallOf 66 = .ok (.isub, 1) := by decide +kernel
theorem dX8_tallOf_67 : decode cX8_tallOf 67 = .ok (.ireturn, 1) := by decide +kernel
theorem dX8_bestLook_0 : decode cX8_bestLook 0 = .ok (.iload_n 0, 1) := by decide +kernel
theorem dX8_bestLook_1 : decode cX8_bestLook 1 = .ok (.ifCond .ne 5, 3) := by decide +kernel
theorem dX8_bestLook_4 : decode cX8_bestLook 4 = .ok (.iconst (-1), 1) := by decide +kernel
theorem dX8_bestLook_5 : decode cX8_bestLook 5 = .ok (.ireturn, 1) := by decide +kernel
theorem dX8_bestLook_6 : decode cX8_bestLook 6 = .ok (.iconst 0, 1) := by decide +kernel
theorem dX8_bestLook_7 : decode cX8_bestLook 7 = .ok (.istore_n 2, 1) := by decide +kernel
theorem dX8_bestLook_8 : decode cX8_bestLook 8 = .ok (.iload_n 0, 1) := by decide +kernel
theorem dX8_bestLook_9 : decode cX8_bestLook 9 = .ok (.iload_n 1, 1) := by decide +kernel
theorem dX8_bestLook_10 : decode cX8_bestLook 10 = .ok (.iconst 0, 1) := by decide +kernel
theorem dX8_bestLook_11 : decode cX8_bestLook 11 = .ok (.invokestatic 314, 3) := by decide +kernel
theorem dX8_bestLook_14 : decode cX8_bestLook 14 = .ok (.istore_n 3, 1) := by decide +kernel
theorem dX8_bestLook_15 : decode cX8_bestLook 15 = .ok (.iconst 1, 1) := by decide +kernel
theorem dX8_bestLook_16 : decode cX8_bestLook 16 = .ok (.istore 4, 2) := by decide +kernel
theorem dX8_bestLook_18 : decode cX8_bestLook 18 = .ok (.iload 4, 2) := by decide +kernel
theorem dX8_bestLook_20 : decode cX8_bestLook 20 = .ok (.bipush 10, 2) := by decide +kernel
theorem dX8_bestLook_22 : decode cX8_bestLook 22 = .ok (.if_icmp .ge 30, 3) := by decide +kernel
theorem dX8_bestLook_25 : decode cX8_bestLook 25 = .ok (.iload_n 0, 1) := by decide +kernel
theorem dX8_bestLook_26 : decode cX8_bestLook 26 = .ok (.iload_n 1, 1) := by decide +kernel
theorem dX8_bestLook_27 : decode cX8_bestLook 27 = .ok (.iload 4, 2) := by decide +kernel
theorem dX8_bestLook_29 : decode cX8_bestLook 29 = .ok (.invokestatic 314, 3) := by decide +kernel
theorem dX8_bestLook_32 : decode cX8_bestLook 32 = .ok (.istore 5, 2) := by decide +kernel
theorem dX8_bestLook_34 : decode cX8_bestLook 34 = .ok (.iload 5, 2) := by decide +kernel
theorem dX8_bestLook_36 : decode cX8_bestLook 36 = .ok (.iload_n 3, 1) := by decide +kernel
theorem dX8_bestLook_37 : decode cX8_bestLook 37 = .ok (.if_icmp .ge 9, 3) := by decide +kernel
theorem dX8_bestLook_40 : decode cX8_bestLook 40 = .ok (.iload 5, 2) := by decide +kernel
theorem dX8_bestLook_42 : decode cX8_bestLook 42 = .ok (.istore_n 3, 1) := by decide +kernel
theorem dX8_bestLook_43 : decode cX8_bestLook 43 = .ok (.iload 4, 2) := by decide +kernel
theorem dX8_bestLook_45 : decode cX8_bestLook 45 = .ok (.istore_n 2, 1) := by decide +kernel
theorem dX8_bestLook_46 : decode cX8_bestLook 46 = .ok (.iinc 4 1, 3) := by decide +kernel
theorem dX8_bestLook_49 : decode cX8_bestLook 49 = .ok (.goto (-31), 3) := by decide +kernel
theorem dX8_bestLook_52 : decode cX8_bestLook 52 = .ok (.iload_n 2, 1) := by decide +kernel
theorem dX8_bestLook_53 : decode cX8_bestLook 53 = .ok (.ireturn, 1) := by decide +kernel
theorem dX8_mostAlike_0 : decode cX8_mostAlike 0 = .ok (.iconst 0, 1) := by decide +kernel
theorem dX8_mostAlike_1 : decode cX8_mostAlike 1 = .ok (.istore_n 3, 1) := by decide +kernel
theorem dX8_mostAlike_2 : decode cX8_mostAlike 2 = .ok (.iconst 0, 1) := by decide +kernel
theorem dX8_mostAlike_3 : decode cX8_mostAlike 3 = .ok (.istore 4, 2) := by decide +kernel
theorem dX8_mostAlike_5 : decode cX8_mostAlike 5 = .ok (.iload 4, 2) := by decide +kernel
theorem dX8_mostAlike_7 : decode cX8_mostAlike 7 = .ok (.bipush 6, 2) := by decide +kernel
theorem dX8_mostAlike_9 : decode cX8_mostAlike 9 = .ok (.if_icmp .ge 32, 3) := by decide +kernel
theorem dX8_mostAlike_12 : decode cX8_mostAlike 12 = .ok (.iload_n 0, 1) := by decide +kernel
theorem dX8_mostAlike_13 : decode cX8_mostAlike 13 = .ok (.iload 4, 2) := by decide +kernel
theorem dX8_mostAlike_15 : decode cX8_mostAlike 15 = .ok (.invokestatic 105, 3) := by decide +kernel
theorem dX8_mostAlike_18 : decode cX8_mostAlike 18 = .ok (.iconst 1, 1) := by decide +kernel
theorem dX8_mostAlike_19 : decode cX8_mostAlike 19 = .ok (.if_icmp .ne 16, 3) := by decide +kernel
theorem dX8_mostAlike_22 : decode cX8_mostAlike 22 = .ok (.iload_n 3, 1) := by decide +kernel
theorem dX8_mostAlike_23 : decode cX8_mostAlike 23 = .ok (.iload_n 0, 1) := by decide +kernel
theorem dX8_mostAlike_24 : decode cX8_mostAlike 24 = .ok (.iload 4, 2) := by decide +kernel
theorem dX8_mostAlike_26 : decode cX8_mostAlike 26 = .ok (.iload_n 1, 1) := by decide +kernel
theorem dX8_mostAlike_27 : decode cX8_mostAlike 27 = .ok (.iload_n 2, 1) := by decide +kernel
theorem dX8_mostAlike_28 : decode cX8_mostAlike 28 = .ok (.invokestatic 317, 3) := by decide +kernel
theorem dX8_mostAlike_31 : decode cX8_mostAlike 31 = .ok (.invokestatic 321, 3) := by decide +kernel
theorem dX8_mostAlike_34 : decode cX8_mostAlike 34 = .ok (.istore_n 3, 1) := by decide +kernel
theorem dX8_mostAlike_35 : decode cX8_mostAlike 35 = .ok (.iinc 4 1, 3) := by decide +kernel
theorem dX8_mostAlike_38 : decode cX8_mostAlike 38 = .ok (.goto (-33), 3) := by decide +kernel
theorem dX8_mostAlike_41 : decode cX8_mostAlike 41 = .ok (.iload_n 3, 1) := by decide +kernel
theorem dX8_mostAlike_42 : decode cX8_mostAlike 42 = .ok (.ireturn, 1) := by decide +kernel
theorem dX8_countAlike_0 : decode cX8_countAlike 0 = .ok (.iconst 0, 1) := by decide +kernel
theorem dX8_countAlike_1 : decode cX8_countAlike 1 = .ok (.istore 4, 2) := by decide +kernel
theorem dX8_countAlike_3 : decode cX8_countAlike 3 = .ok (.iconst 0, 1) := by decide +kernel
theorem dX8_countAlike_4 : decode cX8_countAlike 4 = .ok (.istore 5, 2) := by decide +kernel
theorem dX8_countAlike_6 : decode cX8_countAlike 6 = .ok (.iload 5, 2) := by decide +kernel
theorem dX8_countAlike_8 : decode cX8_countAlike 8 = .ok (.bipush 6, 2) := by decide +kernel
theorem dX8_countAlike_10 : decode cX8_countAlike 10 = .ok (.if_icmp .ge 52, 3) := by decide +kernel
theorem dX8_countAlike_13 : decode cX8_countAlike 13 = .ok (.iload_n 0, 1) := by decide +kernel
theorem dX8_countAlike_14 : decode cX8_countAlike 14 = .ok (.iload 5, 2) := by decide +kernel
theorem dX8_countAlike_16 : decode cX8_countAlike 16 = .ok (.invokestatic 105, 3) := by decide +kernel
theorem dX8_countAlike_19 : decode cX8_countAlike 19 = .ok (.iconst 1, 1) := by decide +kernel
theorem dX8_countAlike_20 : decode cX8_countAlike 20 = .ok (.if_icmp .ne 36, 3) := by decide +kernel
theorem dX8_countAlike_23 : decode cX8_countAlike 23 = .ok (.iload 5, 2) := by decide +kernel
theorem dX8_countAlike_25 : decode cX8_countAlike 25 = .ok (.iload_n 2, 1) := by decide +kernel
theorem dX8_countAlike_26 : decode cX8_countAlike 26 = .ok (.iload_n 3, 1) := by decide +kernel
theorem dX8_countAlike_27 : decode cX8_countAlike 27 = .ok (.invokestatic 187, 3) := by decide +kernel
theorem dX8_countAlike_30 : decode cX8_countAlike 30 = .ok (.iload_n 1, 1) := by decide +kernel
theorem dX8_countAlike_31 : decode cX8_countAlike 31 = .ok (.iload_n 2, 1) := by decide +kernel
theorem dX8_countAlike_32 : decode cX8_countAlike 32 = .ok (.iload_n 3, 1) := by decide +kernel
theorem dX8_countAlike_33 : decode cX8_countAlike 33 = .ok (.invokestatic 187, 3) := by decide +kernel
theorem dX8_countAlike_36 : decode cX8_countAlike 36 = .ok (.if_icmp .ne 20, 3) := by decide +kernel
theorem dX8_countAlike_39 : decode cX8_countAlike 39 = .ok (.iload 5, 2) := by decide +kernel
theorem dX8_countAlike_41 : decode cX8_countAlike 41 = .ok (.iload_n 3, 1) := by decide +kernel
theorem dX8_countAlike_42 : decode cX8_countAlike 42 = .ok (.invokestatic 191, 3) := by decide +kernel
theorem dX8_countAlike_45 : decode cX8_countAlike 45 = .ok (.iload_n 1, 1) := by decide +kernel
theorem dX8_countAlike_46 : decode cX8_countAlike 46 = .ok (.iload_n 3, 1) := by decide +kernel
theorem dX8_countAlike_47 : decode cX8_countAlike 47 = .ok (.invokestatic 191, 3) := by decide +kernel
theorem dX8_countAlike_50 : decode cX8_countAlike 50 = .ok (.if_icmp .ne 6, 3) := by decide +kernel
theorem dX8_countAlike_53 : decode cX8_countAlike 53 = .ok (.iinc 4 1, 3) := by decide +kernel
theorem dX8_countAlike_56 : decode cX8_countAlike 56 = .ok (.iinc 5 1, 3) := by decide +kernel
theorem dX8_countAlike_59 : decode cX8_countAlike 59 = .ok (.goto (-53), 3) := by decide +kernel
theorem dX8_countAlike_62 : decode cX8_countAlike 62 = .ok (.iload 4, 2) := by decide +kernel
theorem dX8_countAlike_64 : decode cX8_countAlike 64 = .ok (.ireturn, 1) := by decide +kernel
theorem dX9_init_0 : decode cX9_init 0 = .ok (.aload_n 0, 1) := by decide +kernel
theorem dX9_init_1 : decode cX9_init 1 = .ok (.invokespecial 1, 3) := by decide +kernel
theorem dX9_init_4 : decode cX9_init 4 = .ok (.aload_n 0, 1) := by decide +kernel
theorem dX9_init_5 : decode cX9_init 5 = .ok (.bipush 118, 2) := by decide +kernel
theorem dX9_init_7 : decode cX9_init 7 = .ok (.newarray .int, 2) := by decide +kernel
theorem dX9_init_9 : decode cX9_init 9 = .ok (.putfield 7, 3) := by decide +kernel
theorem dX9_init_12 : decode cX9_init 12 = .ok (.aload_n 0, 1) := by decide +kernel
theorem dX9_init_13 : decode cX9_init 13 = .ok (.sipush 236, 3) := by decide +kernel
theorem dX9_init_16 : decode cX9_init 16 = .ok (.newarray .int, 2) := by decide +kernel
theorem dX9_init_18 : decode cX9_init 18 = .ok (.putfield 13, 3) := by decide +kernel
theorem dX9_init_21 : decode cX9_init 21 = .ok (.aload_n 0, 1) := by decide +kernel
theorem dX9_init_22 : decode cX9_init 22 = .ok (.iconst 2, 1) := by decide +kernel
theorem dX9_init_23 : decode cX9_init 23 = .ok (.newarray .boolean, 2) := by decide +kernel
theorem dX9_init_25 : decode cX9_init 25 = .ok (.putfield 16, 3) := by decide +kernel
theorem dX9_init_28 : decode cX9_init 28 = .ok (.aload_n 0, 1) := by decide +kernel
theorem dX9_init_29 : decode cX9_init 29 = .ok (.iconst 3, 1) := by decide +kernel
theorem dX9_init_30 : decode cX9_init 30 = .ok (.newarray .int, 2) := by decide +kernel
theorem dX9_init_32 : decode cX9_init 32 = .ok (.putfield 20, 3) := by decide +kernel
theorem dX9_init_35 : decode cX9_init 35 = .ok (.aload_n 0, 1) := by decide +kernel
theorem dX9_init_36 : decode cX9_init 36 = .ok (.lconst 1, 1) := by decide +kernel
theorem dX9_init_37 : decode cX9_init 37 = .ok (.putfield 23, 3) := by decide +kernel
theorem dX9_init_40 : decode cX9_init 40 = .ok (.aload_n 0, 1) := by decide +kernel
theorem dX9_init_41 : decode cX9_init 41 = .ok (.bipush 54, 2) := by decide +kernel
theorem dX9_init_43 : decode cX9_init 43 = .ok (.newarray .int, 2) := by decide +kernel
theorem dX9_init_45 : decode cX9_init 45 = .ok (.putfield 27, 3) := by decide +kernel
theorem dX9_init_48 : decode cX9_init 48 = .ok (.aload_n 0, 1) := by decide +kernel
theorem dX9_init_49 : decode cX9_init 49 = .ok (.bipush 7, 2) := by decide +kernel
theorem dX9_init_51 : decode cX9_init 51 = .ok (.newarray .int, 2) := by decide +kernel
theorem dX9_init_53 : decode cX9_init 53 = .ok (.putfield 30, 3) := by decide +kernel
theorem dX9_init_56 : decode cX9_init 56 = .ok (.aload_n 0, 1) := by decide +kernel
theorem dX9_init_57 : decode cX9_init 57 = .ok (.bipush 100, 2) := by decide +kernel
theorem dX9_init_59 : decode cX9_init 59 = .ok (.newarray .int, 2) := by decide +kernel
theorem dX9_init_61 : decode cX9_init 61 = .ok (.putfield 33, 3) := by decide +kernel
theorem dX9_init_64 : decode cX9_init 64 = .ok (.aload_n 0, 1) := by decide +kernel
theorem dX9_init_65 : decode cX9_init 65 = .ok (.bipush 100, 2) := by decide +kernel
theorem dX9_init_67 : decode cX9_init 67 = .ok (.newarray .int, 2) := by decide +kernel
theorem dX9_init_69 : decode cX9_init 69 = .ok (.putfield 36, 3) := by decide +kernel
theorem dX9_init_72 : decode cX9_init 72 = .ok (.aload_n 0, 1) := by decide +kernel
theorem dX9_init_73 : decode cX9_init 73 = .ok (.sipush 150, 3) := by decide +kernel
theorem dX9_init_76 : decode cX9_init 76 = .ok (.newarray .int, 2) := by decide +kernel
theorem dX9_init_78 : decode cX9_init 78 = .ok (.putfield 39, 3) := by decide +kernel
theorem dX9_init_81 : decode cX9_init 81 = .ok (.aload_n 0, 1) := by decide +kernel
theorem dX9_init_82 : decode cX9_init 82 = .ok (.bipush 78, 2) := by decide +kernel
theorem dX9_init_84 : decode cX9_init 84 = .ok (.newarray .int, 2) := by decide +kernel
theorem dX9_init_86 : decode cX9_init 86 = .ok (.putfield 42, 3) := by decide +kernel
theorem dX9_init_89 : decode cX9_init 89 = .ok (.aload_n 0, 1) := by decide +kernel
theorem dX9_init_90 : decode cX9_init 90 = .ok (.iconst 4, 1) := by decide +kernel
theorem dX9_init_91 : decode cX9_init 91 = .ok (.newarray .int, 2) := by decide +kernel
theorem dX9_init_93 : decode cX9_init 93 = .ok (.putfield 45, 3) := by decide +kernel
theorem dX9_init_96 : decode cX9_init 96 = .ok (.aload_n 0, 1) := by decide +kernel
theorem dX9_init_97 : decode cX9_init 97 = .ok (.getfield 7, 3) := by decide +kernel
theorem dX9_init_100 : decode cX9_init 100 = .ok (.iconst 4, 1) := by decide +kernel
theorem dX9_init_101 : decode cX9_init 101 = .ok (.invokestatic 48, 3) := by decide +kernel
theorem dX9_init_104 : decode cX9_init 104 = .ok (.return_, 1) := by decide +kernel
theorem dX9_in_0 : decode cX9_in 0 = .ok (.lload_n 0, 1) := by decide +kernel
theorem dX9_in_1 : decode cX9_in 1 = .ok (.lload_n 2, 1) := by decide +kernel
theorem dX9_in_2 : decode cX9_in 2 = .ok (.lcmp, 1) := by decide +kernel
theorem dX9_in_3 : decode cX9_in 3 = .ok (.ifCond .lt 14, 3) := by decide +kernel
theorem dX9_in_6 : decode cX9_in 6 = .ok (.lload_n 0, 1) := by decide +kernel
theorem dX9_in_7 : decode cX9_in 7 = .ok (.lload 4, 2) := by decide +kernel
theorem dX9_in_9 : decode cX9_in 9 = .ok (.lcmp, 1) := by decide +kernel
theorem dX9_in_10 : decode cX9_in 10 = .ok (.ifCond .gt 7, 3) := by decide +kernel
theorem dX9_in_13 : decode cX9_in 13 = .ok (.iconst 1, 1) := by decide +kernel
theorem dX9_in_14 : decode cX9_in 14 = .ok (.goto 4, 3) := by decide +kernel
theorem dX9_in_17 : decode cX9_in 17 = .ok (.iconst 0, 1) := by decide +kernel
theorem dX9_in_18 : decode cX9_in 18 = .ok (.ireturn, 1) := by decide +kernel
theorem dX9_bad_0 : decode cX9_bad 0 = .ok (.aload_n 0, 1) := by decide +kernel
theorem dX9_bad_1 : decode cX9_bad 1 = .ok (.getfield 20, 3) := by decide +kernel
theorem dX9_bad_4 : decode cX9_bad 4 = .ok (.iconst 0, 1) := by decide +kernel
theorem dX9_bad_5 : decode cX9_bad 5 = .ok (.dup2, 1) := by decide +kernel
theorem dX9_bad_6 : decode cX9_bad 6 = .ok (.iaload, 1) := by decide +kernel
theorem dX9_bad_7 : decode cX9_bad 7 = .ok (.iconst 1, 1) := by decide +kernel
theorem dX9_bad_8 : decode cX9_bad 8 = .ok (.iadd, 1) := by decide +kernel
theorem dX9_bad_9 : decode cX9_bad 9 = .ok (.iastore, 1) := by decide +kernel
theorem dX9_bad_10 : decode cX9_bad 10 = .ok (.iload_n 1, 1) := by decide +kernel
theorem dX9_bad_11 : decode cX9_bad 11 = .ok (.ireturn, 1) := by decide +kernel
theorem dX9_no_0 : decode cX9_no 0 = .ok (.aload_n 0, 1) := by decide +kernel
theorem dX9_no_1 : decode cX9_no 1 = .ok (.getfield 20, 3) := by decide +kernel
theorem dX9_no_4 : decode cX9_no 4 = .ok (.iconst 1, 1) := by decide +kernel
theorem dX9_no_5 : decode cX9_no 5 = .ok (.dup2, 1) := by decide +kernel
theorem dX9_no_6 : decode cX9_no 6 = .ok (.iaload, 1) := by decide +kernel
theorem dX9_no_7 : decode cX9_no 7 = .ok (.iconst 1, 1) := by decide +kernel
theorem dX9_no_8 : decode cX9_no 8 = .ok (.iadd, 1) := by decide +kernel
theorem dX9_no_9 : decode cX9_no 9 = .ok (.iastore, 1) := by decide +kernel
theorem dX9_no_10 : decode cX9_no 10 = .ok (.bipush (-3), 2) := by decide +kernel
theorem dX9_no_12 : decode cX9_no 12 = .ok (.ireturn, 1) := by decide +kernel
theorem dX9_full_0 : decode cX9_full 0 = .ok (.aload_n 0, 1) := by decide +kernel
theorem dX9_full_1 : decode cX9_full 1 = .ok (.getfield 20, 3) := by decide +kernel
theorem dX9_full_4 : decode cX9_full 4 = .ok (.iconst 2, 1) := by decide +kernel
theorem dX9_full_5 : decode cX9_full 5 = .ok (.dup2, 1) := by decide +kernel
theorem dX9_full_6 : decode cX9_full 6 = .ok (.iaload, 1) := by decide +kernel
theorem dX9_full_7 : decode cX9_full 7 = .ok (.iconst 1, 1) := by decide +kernel
theorem dX9_full_8 : decode cX9_full 8 = .ok (.iadd, 1) := by decide +kernel
theorem dX9_full_9 : decode cX9_full 9 = .ok (.iastore, 1) := by decide +kernel
theorem dX9_full_10 : decode cX9_full 10 = .ok (.bipush (-4), 2) := by decide +kernel
theorem dX9_full_12 : decode cX9_full 12 = .ok (.ireturn, 1) := by decide +kernel
theorem dX9_bits_0 : decode cX9_bits 0 = .ok (.iconst 0, 1) := by decide +kernel
theorem dX9_bits_1 : decode cX9_bits 1 = .ok (.istore_n 1, 1) := by decide +kernel
theorem dX9_bits_2 : decode cX9_bits 2 = .ok (.iload_n 0, 1) := by decide +kernel
theorem dX9_bits_3 : decode cX9_bits 3 = .ok (.istore_n 2, 1) := by decide +kernel
theorem dX9_bits_4 : decode cX9_bits 4 = .ok (.iload_n 2, 1) := by decide +kernel
theorem dX9_bits_5 : decode cX9_bits 5 = .ok (.ifCond .le 16, 3) := by decide +kernel
theorem dX9_bits_8 : decode cX9_bits 8 = .ok (.iload_n 1, 1) := by decide +kernel
theorem dX9_bits_9 : decode cX9_bits 9 = .ok (.iload_n 2, 1) := by decide +kernel
theorem dX9_bits_10 : decode cX9_bits 10 = .ok (.iconst 1, 1) := by decide +kernel
theorem dX9_bits_11 : decode cX9_bits 11 = .ok (.iand, 1) := by decide +kernel
theorem dX9_bits_12 : decode cX9_bits 12 = .ok (.iadd, 1) := by decide +kernel
theorem dX9_bits_13 : decode cX9_bits 13 = .ok (.istore_n 1, 1) := by decide +kernel
theorem dX9_bits_14 : decode cX9_bits 14 = .ok (.iload_n 2, 1) := by decide +kernel
theorem dX9_bits_15 : decode cX9_bits 15 = .ok (.iconst 1, 1) := by decide +kernel
theorem dX9_bits_16 : decode cX9_bits 16 = .ok (.ishr, 1) := by decide +kernel
theorem dX9_bits_17 : decode cX9_bits 17 = .ok (.istore_n 2, 1) := by decide +kernel
theorem dX9_bits_18 : decode cX9_bits 18 = .ok (.goto (-14), 3) := by decide +kernel
theorem dX9_bits_21 : decode cX9_bits 21 = .ok (.iload_n 1, 1) := by decide +kernel
theorem dX9_bits_22 : decode cX9_bits 22 = .ok (.ireturn, 1) := by decide +kernel
theorem dX9_has_0 : decode cX9_has 0 = .ok (.iload_n 0, 1) := by decide +kernel
theorem dX9_has_1 : decode cX9_has 1 = .ok (.iload_n 1, 1) := by decide +kernel
theorem dX9_has_2 : decode cX9_has 2 = .ok (.ishr, 1) := by decide +kernel
theorem dX9_has_3 : decode cX9_has 3 = .ok (.iconst 1, 1) := by decide +kernel
theorem dX9_has_4 : decode cX9_has 4 = .ok (.iand, 1) := by decide +kernel
theorem dX9_has_5 : decode cX9_has 5 = .ok (.iconst 1, 1) := by decide +kernel
theorem dX9_has_6 : decode cX9_has 6 = .ok (.if_icmp .ne 7, 3) := by decide +kernel
theorem dX9_has_9 : decode cX9_has 9 = .ok (.iconst 1, 1) := by decide +kernel
theorem dX9_has_10 : decode cX9_has 10 = .ok (.goto 4, 3) := by decide +kernel
theorem dX9_has_13 : decode cX9_has 13 = .ok (.iconst 0, 1) := by decide +kernel
theorem dX9_has_14 : decode cX9_has 14 = .ok (.ireturn, 1) := by decide +kernel
theorem dX9_begin_0 : decode cX9_begin 0 = .ok (.iconst 0, 1) := by decide +kernel
theorem dX9_begin_1 : decode cX9_begin 1 = .ok (.istore_n 2, 1) := by decide +kernel
theorem dX9_begin_2 : decode cX9_begin 2 = .ok (.iload_n 2, 1) := by decide +kernel
theorem dX9_begin_3 : decode cX9_begin 3 = .ok (.bipush 78, 2) := by decide +kernel
theorem dX9_begin_5 : decode cX9_begin 5 = .ok (.if_icmp .ge 13, 3) := by decide +kernel
theorem dX9_begin_8 : decode cX9_begin 8 = .ok (.aload_n 0, 1) := by decide +kernel
theorem dX9_begin_9 : decode cX9_begin 9 = .ok (.iload_n 2, 1) := by decide +kernel
theorem dX9_begin_10 : decode cX9_begin 10 = .ok (.iconst 0, 1) := by decide +kernel
theorem dX9_begin_11 : decode cX9_begin 11 = .ok (.iastore, 1) := by decide +kernel
theorem dX9_begin_12 : decode cX9_begin 12 = .ok (.iinc 2 1, 3) := by decide +kernel
theorem dX9_begin_15 : decode cX9_begin 15 = .ok (.goto (-13), 3) := by decide +kernel
theorem dX9_begin_18 : decode cX9_begin 18 = .ok (.aload_n 0, 1) := by decide +kernel
theorem dX9_begin_19 : decode cX9_begin 19 = .ok (.bipush 8, 2) := by decide +kernel
theorem dX9_begin_21 : decode cX9_begin 21 = .ok (.iload_n 1, 1) := by decide +kernel
theorem dX9_begin_22 : decode cX9_begin 22 = .ok (.iastore, 1) := by decide +kernel
theorem dX9_begin_23 : decode cX9_begin 23 = .ok (.return_, 1) := by decide +kernel
theorem dX9_many_0 : decode cX9_many 0 = .ok (.aload_n 0, 1) := by decide +kernel
theorem dX9_many_1 : decode cX9_many 1 = .ok (.getfield 7, 3) := by decide +kernel
theorem dX9_many_4 : decode cX9_many 4 = .ok (.iconst 0, 1) := by decide +kernel
theorem dX9_many_5 : decode cX9_many 5 = .ok (.iaload, 1) := by decide +kernel
theorem dX9_many_6 : decode cX9_many 6 = .ok (.ireturn, 1) := by decide +kernel
theorem dX9_isIdea_0 : decode cX9_isIdea 0 = .ok (.iload_n 1, 1) := by decide +kernel
theorem dX9_isIdea_1 : decode cX9_isIdea 1 = .ok (.i2l, 1) := by decide +kernel
theorem dX9_isIdea_2 : decode cX9_isIdea 2 = .ok (.lconst 0, 1) := by decide +kernel
theorem dX9_isIdea_3 : decode cX9_isIdea 3 = .ok (.aload_n 0, 1) := by decide +kernel
theorem dX9_isIdea_4 : decode cX9_isIdea 4 = .ok (.invokevirtual 52, 3) := by decide +kernel
theorem dX9_isIdea_7 : decode cX9_isIdea 7 = .ok (.iconst 1, 1) := by decide +kernel
theorem dX9_isIdea_8 : decode cX9_isIdea 8 = .ok (.isub, 1) := by decide +kernel
theorem dX9_isIdea_9 : decode cX9_isIdea 9 = .ok (.i2l, 1) := by decide +kernel
theorem dX9_isIdea_10 : decode cX9_isIdea 10 = .ok (.invokestatic 56, 3) := by decide +kernel
theorem dX9_isIdea_13 : decode cX9_isIdea 13 = .ok (.ireturn, 1) := by decide +kernel
theorem dX9_isStop_0 : decode cX9_isStop 0 = .ok (.iload_n 0, 1) := by decide +kernel
theorem dX9_isStop_1 : decode cX9_isStop 1 = .ok (.i2l, 1) := by decide +kernel
theorem dX9_isStop_2 : decode cX9_isStop 2 = .ok (.lconst 0, 1) := by decide +kernel
theorem dX9_isStop_3 : decode cX9_isStop 3 = .ok (.ldc2_w 60, 3) := by decide +kernel
theorem dX9_isStop_6 : decode cX9_isStop 6 = .ok (.invokestatic 56, 3) := by decide +kernel
theorem dX9_isStop_9 : decode cX9_isStop 9 = .ok (.ireturn, 1) := by decide +kernel
theorem dX9_bus_0 : decode cX9_bus 0 = .ok (.iload_n 1, 1) := by decide +kernel
theorem dX9_bus_1 : decode cX9_bus 1 = .ok (.i2l, 1) := by decide +kernel
theorem dX9_bus_2 : decode cX9_bus 2 = .ok (.lconst 1, 1) := by decide +kernel
theorem dX9_bus_3 : decode cX9_bus 3 = .ok (.ldc2_w 62, 3) := by decide +kernel
theorem dX9_bus_6 : decode cX9_bus 6 = .ok (.invokestatic 56, 3) := by decide +kernel
theorem dX9_bus_9 : decode cX9_bus 9 = .ok (.ifCond .ne 10, 3) := by decide +kernel
theorem dX9_bus_12 : decode cX9_bus 12 = .ok (.aload_n 0, 1) := by decide +kernel
theorem dX9_bus_13 : decode cX9_bus 13 = .ok (.bipush (-2), 2) := by decide +kernel
theorem dX9_bus_15 : decode cX9_bus 15 = .ok (.invokevirtual 64, 3) := by decide +kernel
theorem dX9_bus_18 : decode cX9_bus 18 = .ok (.ireturn, 1) := by decide +kernel
theorem dX9_bus_19 : decode cX9_bus 19 = .ok (.aload_n 0, 1) := by decide +kernel
theorem dX9_bus_20 : decode cX9_bus 20 = .ok (.invokevirtual 52, 3) := by decide +kernel
theorem dX9_bus_23 : decode cX9_bus 23 = .ok (.istore_n 2, 1) := by decide +kernel
theorem dX9_bus_24 : decode cX9_bus 24 = .ok (.aload_n 0, 1) := by decide +kernel
theorem dX9_bus_25 : decode cX9_bus 25 = .ok (.getfield 7, 3) := by decide +kernel
theorem dX9_bus_28 : decode cX9_bus 28 = .ok (.iload_n 1, 1) := by decide +kernel
theorem dX9_bus_29 : decode cX9_bus 29 = .ok (.invokestatic 48, 3) := by decide +kernel
theorem dX9_bus_32 : decode cX9_bus 32 = .ok (.iload_n 2, 1) := by decide +kernel
theorem dX9_bus_33 : decode cX9_bus 33 = .ok (.ireturn, 1) := by decide +kernel
theorem dX9_room_0 : decode cX9_room 0 = .ok (.iload_n 1, 1) := by decide +kernel
theorem dX9_room_1 : decode cX9_room 1 = .ok (.i2l, 1) := by decide +kernel
theorem dX9_room_2 : decode cX9_room 2 = .ok (.lconst 1, 1) := by decide +kernel
theorem dX9_room_3 : decode cX9_room 3 = .ok (.ldc2_w 62, 3) := by decide +kernel
theorem dX9_room_6 : decode cX9_room 6 = .ok (.invokestatic 56, 3) := by decide +kernel
theorem dX9_room_9 : decode cX9_room 9 = .ok (.ifCond .ne 10, 3) := by decide +kernel
theorem dX9_room_12 : decode cX9_room 12 = .ok (.aload_n 0, 1) := by decide +kernel
theorem dX9_room_13 : decode cX9_room 13 = .ok (.bipush (-2), 2) := by decide +kernel
theorem dX9_room_15 : decode cX9_room 15 = .ok (.invokevirtual 64, 3) := by decide +kernel
theorem dX9_room_18 : decode cX9_room 18 = .ok (.ireturn, 1) := by decide +kernel
theorem dX9_room_19 : decode cX9_room 19 = .ok (.aload_n 0, 1) := by decide +kernel
theorem dX9_room_20 : decode cX9_room 20 = .ok (.getfield 7, 3) := by decide +kernel
theorem dX9_room_23 : decode cX9_room 23 = .ok (.bipush 8, 2) := by decide +kernel
theorem dX9_room_25 : decode cX9_room 25 = .ok (.iaload, 1) := by decide +kernel
theorem dX9_room_26 : decode cX9_room 26 = .ok (.istore_n 2, 1) := by decide +kernel
theorem dX9_room_27 : decode cX9_room 27 = .ok (.aload_n 0, 1) := by decide +kernel
theorem dX9_room_28 : decode cX9_room 28 = .ok (.getfield 7, 3) := by decide +kernel
theorem dX9_room_31 : decode cX9_room 31 = .ok (.bipush 8, 2) := by decide +kernel
theorem dX9_room_33 : decode cX9_room 33 = .ok (.iload_n 1, 1) := by decide +kernel
theorem dX9_room_34 : decode cX9_room 34 = .ok (.iastore, 1) := by decide +kernel
theorem dX9_room_35 : decode cX9_room 35 = .ok (.aload_n 0, 1) := by decide +kernel
theorem dX9_room_36 : decode cX9_room 36 = .ok (.getfield 7, 3) := by decide +kernel
theorem dX9_room_39 : decode cX9_room 39 = .ok (.iconst 2, 1) := by decide +kernel
theorem dX9_room_40 : decode cX9_room 40 = .ok (.iconst 0, 1) := by decide +kernel
theorem dX9_room_41 : decode cX9_room 41 = .ok (.iastore, 1) := by decide +kernel
theorem dX9_room_42 : decode cX9_room 42 = .ok (.iload_n 2, 1) := by decide +kernel
theorem dX9_room_43 : decode cX9_room 43 = .ok (.ireturn, 1) := by decide +kernel
theorem dX9_bridge_0 : decode cX9_bridge 0 = .ok (.iload_n 1, 1) := by decide +kernel
theorem dX9_bridge_1 : decode cX9_bridge 1 = .ok (.invokestatic 68, 3) := by decide +kernel
theorem dX9_bridge_4 : decode cX9_bridge 4 = .ok (.ifCond .eq 15, 3) := by decide +kernel
theorem dX9_bridge_7 : decode cX9_bridge 7 = .ok (.iload_n 2, 1) := by decide +kernel
theorem dX9_bridge_8 : decode cX9_bridge 8 = .ok (.i2l, 1) := by decide +kernel
theorem dX9_bridge_9 : decode cX9_bridge 9 = .ok (.lconst 0, 1) := by decide +kernel
theorem dX9_bridge_10 : decode cX9_bridge 10 = .ok (.ldc2_w 60, 3) := by decide +kernel
theorem dX9_bridge_13 : decode cX9_bridge 13 = .ok (.invokestatic 56, 3) := by decide +kernel
theorem dX9_bridge_16 : decode cX9_bridge 16 = .ok (.ifCond .ne 10, 3) := by decide +kernel
theorem dX9_bridge_19 : decode cX9_bridge 19 = .ok (.aload_n 0, 1) := by decide +kernel
theorem dX9_bridge_20 : decode cX9_bridge 20 = .ok (.bipush (-2), 2) := by decide +kernel
theorem dX9_bridge_22 : decode cX9_bridge 22 = .ok (.invokevirtual 64, 3) := by decide +kernel
theorem dX9_bridge_25 : decode cX9_bridge 25 = .ok (.ireturn, 1) := by decide +kernel
theorem dX9_bridge_26 : decode cX9_bridge 26 = .ok (.aload_n 0, 1) := by decide +kernel
theorem dX9_bridge_27 : decode cX9_bridge 27 = .ok (.getfield 7, 3) := by decide +kernel
theorem dX9_bridge_30 : decode cX9_bridge 30 = .ok (.bipush 9, 2) := by decide +kernel
theorem dX9_bridge_32 : decode cX9_bridge 32 = .ok (.iload_n 1, 1) := by decide +kernel
theorem dX9_bridge_33 : decode cX9_bridge 33 = .ok (.iadd, 1) := by decide +kernel
theorem dX9_bridge_34 : decode cX9_bridge 34 = .ok (.iaload, 1) := by decide +kernel
theorem dX9_bridge_35 : decode cX9_bridge 35 = .ok (.istore_n 3, 1) := by decide +kernel
theorem dX9_bridge_36 : decode cX9_bridge 36 = .ok (.aload_n 0, 1) := by decide +kernel
theorem dX9_bridge_37 : decode cX9_bridge 37 = .ok (.getfield 7, 3) := by decide +kernel
theorem dX9_bridge_40 : decode cX9_bridge 40 = .ok (.bipush 9, 2) := by decide +kernel
theorem dX9_bridge_42 : decode cX9_bridge 42 = .ok (.iload_n 1, 1) := by decide +kernel
theorem dX9_bridge_43 : decode cX9_bridge 43 = .ok (.iadd, 1) := by decide +kernel
theorem dX9_bridge_44 : decode cX9_bridge 44 = .ok (.iload_n 2, 1) := by decide +kernel
theorem dX9_bridge_45 : decode cX9_bridge 45 = .ok (.iastore, 1) := by decide +kernel
theorem dX9_bridge_46 : decode cX9_bridge 46 = .ok (.aload_n 0, 1) := by decide +kernel
theorem dX9_bridge_47 : decode cX9_bridge 47 = .ok (.getfield 7, 3) := by decide +kernel
theorem dX9_bridge_50 : decode cX9_bridge 50 = .ok (.iconst 2, 1) := by decide +kernel
theorem dX9_bridge_51 : decode cX9_bridge 51 = .ok (.iconst 0, 1) := by decide +kernel
theorem dX9_bridge_52 : decode cX9_bridge 52 = .ok (.iastore, 1) := by decide +kernel
theorem dX9_bridge_53 : decode cX9_bridge 53 = .ok (.iload_n 3, 1) := by decide +kernel
theorem dX9_bridge_54 : decode cX9_bridge 54 = .ok (.ireturn, 1) := by decide +kernel
theorem dX9_layIdea_0 : decode cX9_layIdea 0 = .ok (.aload_n 0, 1) := by decide +kernel
theorem dX9_layIdea_1 : decode cX9_layIdea 1 = .ok (.iconst 0, 1) := by decide +kernel
theorem dX9_layIdea_2 : decode cX9_layIdea 2 = .ok (.iaload, 1) := by decide +kernel
theorem dX9_layIdea_3 : decode cX9_layIdea 3 = .ok (.istore 5, 2) := by decide +kernel
theorem dX9_layIdea_5 : decode cX9_layIdea 5 = .ok (.aload_n 0, 1) := by decide +kernel
theorem dX9_layIdea_6 : decode cX9_layIdea 6 = .ok (.bipush 19, 2) := by decide +kernel
theorem dX9_layIdea_8 : decode cX9_layIdea 8 = .ok (.iload 5, 2) := by decide +kernel
theorem dX9_layIdea_10 : decode cX9_layIdea 10 = .ok (.iadd, 1) := by decide +kernel
theorem dX9_layIdea_11 : decode cX9_layIdea 11 = .ok (.iload_n 1, 1) := by decide +kernel
theorem dX9_layIdea_12 : decode cX9_layIdea 12 = .ok (.iastore, 1) := by decide +kernel
theorem dX9_layIdea_13 : decode cX9_layIdea 13 = .ok (.aload_n 0, 1) := by decide +kernel
theorem dX9_layIdea_14 : decode cX9_layIdea 14 = .ok (.bipush 26, 2) := by decide +kernel
theorem dX9_layIdea_16 : decode cX9_layIdea 16 = .ok (.iload 5, 2) := by decide +kernel
theorem dX9_layIdea_18 : decode cX9_layIdea 18 = .ok (.iadd, 1) := by decide +kernel
theorem dX9_layIdea_19 : decode cX9_layIdea 19 = .ok (.iload_n 2, 1) := by decide +kernel
theorem dX9_layIdea_20 : decode cX9_layIdea 20 = .ok (.iastore, 1) := by decide +kernel
theorem dX9_layIdea_21 : decode cX9_layIdea 21 = .ok (.aload_n 0, 1) := by decide +kernel
theorem dX9_layIdea_22 : decode cX9_layIdea 22 = .ok (.bipush 33, 2) := by decide +kernel
theorem dX9_layIdea_24 : decode cX9_layIdea 24 = .ok (.iload 5, 2) := by decide +kernel
theorem dX9_layIdea_26 : decode cX9_layIdea 26 = .ok (.iadd, 1) := by decide +kernel
theorem dX9_layIdea_27 : decode cX9_layIdea 27 = .ok (.iload_n 3, 1) := by decide +kernel
theorem dX9_layIdea_28 : decode cX9_layIdea 28 = .ok (.iastore, 1) := by decide +kernel
theorem dX9_layIdea_29 : decode cX9_layIdea 29 = .ok (.aload_n 0, 1) := by decide +kernel
theorem dX9_layIdea_30 : decode cX9_layIdea 30 = .ok (.bipush 40, 2) := by decide +kernel
theorem dX9_layIdea_32 : decode cX9_layIdea 32 = .ok (.iload 5, 2) := by decide +kernel
theorem dX9_layIdea_34 : decode cX9_layIdea 34 = .ok (.iadd, 1) := by decide +kernel
theorem dX9_layIdea_35 : decode cX9_layIdea 35 = .ok (.iload 4, 2) := by decide +kernel
theorem dX9_layIdea_37 : decode cX9_layIdea 37 = .ok (.iastore, 1) := by decide +kernel
theorem dX9_layIdea_38 : decode cX9_layIdea 38 = .ok (.aload_n 0, 1) := by decide +kernel
theorem dX9_layIdea_39 : decode cX9_layIdea 39 = .ok (.bipush 47, 2) := by decide +kernel
theorem dX9_layIdea_41 : decode cX9_layIdea 41 = .ok (.iload 5, 2) := by decide +kernel
theorem dX9_layIdea_43 : decode cX9_layIdea 43 = .ok (.iadd, 1) := by decide +kernel
theorem dX9_layIdea_44 : decode cX9_layIdea 44 = .ok (.iconst 0, 1) := by decide +kernel
theorem dX9_layIdea_45 : decode cX9_layIdea 45 = .ok (.iastore, 1) := by decide +kernel
theorem dX9_layIdea_46 : decode cX9_layIdea 46 = .ok (.aload_n 0, 1) := by decide +kernel
theorem dX9_layIdea_47 : decode cX9_layIdea 47 = .ok (.iconst 0, 1) := by decide +kernel
theorem dX9_layIdea_48 : decode cX9_layIdea 48 = .ok (.dup2, 1) := by decide +kernel
theorem dX9_layIdea_49 : decode cX9_layIdea 49 = .ok (.iaload, 1) := by decide +kernel
theorem dX9_layIdea_50 : decode cX9_layIdea 50 = .ok (.iconst 1, 1) := by decide +kernel
theorem dX9_layIdea_51 : decode cX9_layIdea 51 = .ok (.iadd, 1) := by decide +kernel
theorem dX9_layIdea_52 : decode cX9_layIdea 52 = .ok (.iastore, 1) := by decide +kernel
theorem dX9_layIdea_53 : decode cX9_layIdea 53 = .ok (.return_, 1) := by decide +kernel
theorem dX9_idea_0 : decode cX9_idea 0 = .ok (.iload_n 1, 1) := by decide +kernel
theorem dX9_idea_1 : decode cX9_idea 1 = .ok (.i2l, 1) := by decide +kernel
theorem dX9_idea_2 : decode cX9_idea 2 = .ok (.lconst 0, 1) := by decide +kernel
theorem dX9_idea_3 : decode cX9_idea 3 = .ok (.ldc2_w 72, 3) := by decide +kernel
theorem dX9_idea_6 : decode cX9_idea 6 = .ok (.invokestatic 56, 3) := by decide +kernel
theorem dX9_idea_9 : decode cX9_idea 9 = .ok (.ifCond .eq 43, 3) := by decide +kernel
theorem dX9_idea_12 : decode cX9_idea 12 = .ok (.iload_n 2, 1) := by decide +kernel
theorem dX9_idea_13 : decode cX9_idea 13 = .ok (.i2l, 1) := by decide +kernel
theorem dX9_idea_14 : decode cX9_idea 14 = .ok (.lconst 1, 1) := by decide +kernel
theorem dX9_idea_15 : decode cX9_idea 15 = .ok (.ldc2_w 60, 3) := by decide +kernel
theorem dX9_idea_18 : decode cX9_idea 18 = .ok (.invokestatic 56, 3) := by decide +kernel
theorem dX9_idea_21 : decode cX9_idea 21 = .ok (.ifCond .eq 31, 3) := by decide +kernel
theorem dX9_idea_24 : decode cX9_idea 24 = .ok (.iload_n 3, 1) := by decide +kernel
theorem dX9_idea_25 : decode cX9_idea 25 = .ok (.i2l, 1) := by decide +kernel
theorem dX9_idea_26 : decode cX9_idea 26 = .ok (.lconst 0, 1) := by decide +kernel
theorem dX9_idea_27 : decode cX9_idea 27 = .ok (.ldc2_w 74, 3) := by decide +kernel
theorem dX9_idea_30 : decode cX9_idea 30 = .ok (.invokestatic 56, 3) := by decide +kernel
theorem dX9_idea_33 : decode cX9_idea 33 = .ok (.ifCond .eq 19, 3) := by decide +kernel
theorem dX9_idea_36 : decode cX9_idea 36 = .ok (.iload 4, 2) := by decide +kernel
theorem dX9_idea_38 : decode cX9_idea 38 = .ok (.i2l, 1) := by decide +kernel
theorem dX9_idea_39 : decode cX9_idea 39 = .ok (.iload_n 3, 1) := by decide +kernel
theorem dX9_idea_40 : decode cX9_idea 40 = .ok (.i2l, 1) := by decide +kernel
theorem dX9_idea_41 : decode cX9_idea 41 = .ok (.lconst 1, 1) := by decide +kernel
theorem dX9_idea_42 : decode cX9_idea 42 = .ok (.ladd, 1) := by decide +kernel
theorem dX9_idea_43 : decode cX9_idea 43 = .ok (.ldc2_w 60, 3) := by decide +kernel
theorem dX9_idea_46 : decode cX9_idea 46 = .ok (.invokestatic 56, 3) := by decide +kernel
theorem dX9_idea_49 : decode cX9_idea 49 = .ok (.ifCond .ne 10, 3) := by decide +kernel
theorem dX9_idea_52 : decode cX9_idea 52 = .ok (.aload_n 0, 1) := by decide +kernel
theorem dX9_idea_53 : decode cX9_idea 53 = .ok (.bipush (-2), 2) := by decide +kernel
theorem dX9_idea_55 : decode cX9_idea 55 = .ok (.invokevirtual 64, 3) := by decide +kernel
theorem dX9_idea_58 : decode cX9_idea 58 = .ok (.ireturn, 1) := by decide +kernel
theorem dX9_idea_59 : decode cX9_idea 59 = .ok (.aload_n 0, 1) := by decide +kernel
theorem dX9_idea_60 : decode cX9_idea 60 = .ok (.invokevirtual 52, 3) := by decide +kernel
theorem dX9_idea_63 : decode cX9_idea 63 = .ok (.bipush 7, 2) := by decide +kernel
theorem dX9_idea_65 : decode cX9_idea 65 = .ok (.if_icmp .ne 8, 3) := by decide +kernel
theorem dX9_idea_68 : decode cX9_idea 68 = .ok (.aload_n 0, 1) := by decide +kernel
theorem dX9_idea_69 : decode cX9_idea 69 = .ok (.invokevirtual 76, 3) := by decide +kernel
theorem dX9_idea_72 : decode cX9_idea 72 = .ok (.ireturn, 1) := by decide +kernel
theorem dX9_idea_73 : decode cX9_idea 73 = .ok (.aload_n 0, 1) := by decide +kernel
theorem dX9_idea_74 : decode cX9_idea 74 = .ok (.getfield 7, 3) := by decide +kernel
theorem dX9_idea_77 : decode cX9_idea 77 = .ok (.iload_n 1, 1) := by decide +kernel
theorem dX9_idea_78 : decode cX9_idea 78 = .ok (.iload_n 2, 1) := by decide +kernel
theorem dX9_idea_79 : decode cX9_idea 79 = .ok (.iload_n 3, 1) := by decide +kernel
theorem dX9_idea_80 : decode cX9_idea 80 = .ok (.iload 4, 2) := by decide +kernel
theorem dX9_idea_82 : decode cX9_idea 82 = .ok (.invokestatic 79, 3) := by decide +kernel
theorem dX9_idea_85 : decode cX9_idea 85 = .ok (.aload_n 0, 1) := by decide +kernel
theorem dX9_idea_86 : decode cX9_idea 86 = .ok (.getfield 7, 3) := by decide +kernel
theorem dX9_idea_89 : decode cX9_idea 89 = .ok (.iconst 2, 1) := by decide +kernel
theorem dX9_idea_90 : decode cX9_idea 90 = .ok (.iconst 0, 1) := by decide +kernel
theorem dX9_idea_91 : decode cX9_idea 91 = .ok (.iastore, 1) := by decide +kernel
theorem dX9_idea_92 : decode cX9_idea 92 = .ok (.aload_n 0, 1) := by decide +kernel
theorem dX9_idea_93 : decode cX9_idea 93 = .ok (.invokevirtual 52, 3) := by decide +kernel
theorem dX9_idea_96 : decode cX9_idea 96 = .ok (.iconst 1, 1) := by decide +kernel
theorem dX9_idea_97 : decode cX9_idea 97 = .ok (.isub, 1) := by decide +kernel
theorem dX9_idea_98 : decode cX9_idea 98 = .ok (.ireturn, 1) := by decide +kernel
theorem dX9_layFoes_0 : decode cX9_layFoes 0 = .ok (.aload_n 0, 1) := by decide +kernel
theorem dX9_layFoes_1 : decode cX9_layFoes 1 = .ok (.bipush 47, 2) := by decide +kernel
theorem dX9_layFoes_3 : decode cX9_layFoes 3 = .ok (.iload_n 1, 1) := by decide +kernel
theorem dX9_layFoes_4 : decode cX9_layFoes 4 = .ok (.iadd, 1) := by decide +kernel
theorem dX9_layFoes_5 : decode cX9_layFoes 5 = .ok (.iload_n 3, 1) := by decide +kernel
theorem dX9_layFoes_6 : decode cX9_layFoes 6 = .ok (.ifCond .eq 16, 3) := by decide +kernel
theorem dX9_layFoes_9 : decode cX9_layFoes 9 = .ok (.aload_n 0, 1) := by decide +kernel
theorem dX9_layFoes_10 : decode cX9_layFoes 10 = .ok (.bipush 47, 2) := by decide +kernel
theorem dX9_layFoes_12 : decode cX9_layFoes 12 = .ok (.iload_n 1, 1) := by decide +kernel
theorem dX9_layFoes_13 : decode cX9_layFoes 13 = .ok (.iadd, 1) := by decide +kernel
theorem dX9_layFoes_14 : decode cX9_layFoes 14 = .ok (.iaload, 1) := by decide +kernel
theorem dX9_layFoes_15 : decode cX9_layFoes 15 = .ok (.iconst 1, 1) := by decide +kernel
theorem dX9_layFoes_16 : decode cX9_layFoes 16 = .ok (.iload_n 2, 1) := by decide +kernel
theorem dX9_layFoes_17 : decode cX9_layFoes 17 = .ok (.ishl, 1) := by decide +kernel
theorem dX9_layFoes_18 : decode cX9_layFoes 18 = .ok (.ior, 1) := by decide +kernel
theorem dX9_layFoes_19 : decode cX9_layFoes 19 = .ok (.goto 15, 3) := by decide +kernel
theorem dX9_layFoes_22 : decode cX9_layFoes 22 = .ok (.aload_n 0, 1) := by decide +kernel
theorem dX9_layFoes_23 : decode cX9_layFoes 23 = .ok (.bipush 47, 2) := by decide +kernel
theorem dX9_layFoes_25 : decode cX9_layFoes 25 = .ok (.iload_n 1, 1) := by decide +kernel
theorem dX9_layFoes_26 : decode cX9_layFoes 26 = .ok (.iadd, 1) := by decide +kernel
theorem dX9_layFoes_27 : decode cX9_layFoes 27 = .ok (.iaload, 1) := by decide +kernel
theorem dX9_layFoes_28 : decode cX9_layFoes 28 = .ok (.iconst 1, 1) := by decide +kernel
theorem dX9_layFoes_29 : decode cX9_layFoes 29 = .ok (.iload_n 2, 1) := by decide +kernel
theorem dX9_layFoes_30 : decode cX9_layFoes 30 = .ok (.ishl, 1) := by decide +kernel
theorem dX9_layFoes_31 : decode cX9_layFoes 31 = .ok (.iconst (-1), 1) := by decide +kernel
theorem dX9_layFoes_32 : decode cX9_layFoes 32 = .ok (.ixor, 1) := by decide +kernel
theorem dX9_layFoes_33 : decode cX9_layFoes 33 = .ok (.iand, 1) := by decide +kernel
theorem dX9_layFoes_34 : decode cX9_layFoes 34 = .ok (.iastore, 1) := by decide +kernel
theorem dX9_layFoes_35 : decode cX9_layFoes 35 = .ok (.aload_n 0, 1) := by decide +kernel
theorem dX9_layFoes_36 : decode cX9_layFoes 36 = .ok (.bipush 47, 2) := by decide +kernel
theorem dX9_layFoes_38 : decode cX9_layFoes 38 = .ok (.iload_n 2, 1) := by decide +kernel
theorem dX9_layFoes_39 : decode cX9_layFoes 39 = .ok (.iadd, 1) := by decide +kernel
theorem dX9_layFoes_40 : decode cX9_layFoes 40 = .ok (.iload_n 3, 1) := by decide +kernel
theorem dX9_layFoes_41 : decode cX9_layFoes 41 = .ok (.ifCond .eq 16, 3) := by decide +kernel
theorem dX9_layFoes_44 : decode cX9_layFoes 44 = .ok (.aload_n 0, 1) := by decide +kernel
theorem dX9_layFoes_45 : decode cX9_layFoes 45 = .ok (.bipush 47, 2) := by decide +kernel
theorem dX9_layFoes_47 : decode cX9_layFoes 47 = .ok (.iload_n 2, 1) := by decide +kernel
theorem dX9_layFoes_48 : decode cX9_layFoes 48 = .ok (.iadd, 1) := by decide +kernel
theorem dX9_layFoes_49 : decode cX9_layFoes 49 = .ok (.iaload, 1) := by decide +kernel
theorem dX9_layFoes_50 : decode cX9_layFoes 50 = .ok (.iconst 1, 1) := by decide +kernel
theorem dX9_layFoes_51 : decode cX9_layFoes 51 = .ok (.iload_n 1, 1) := by decide +kernel
theorem dX9_layFoes_52 : decode cX9_layFoes 52 = .ok (.ishl, 1) := by decide +kernel
theorem dX9_layFoes_53 : decode cX9_layFoes 53 = .ok (.ior, 1) := by decide +kernel
theorem dX9_layFoes_54 : decode cX9_layFoes 54 = .ok (.goto 15, 3) := by decide +kernel
theorem dX9_layFoes_57 : decode cX9_layFoes 57 = .ok (.aload_n 0, 1) := by decide +kernel
theorem dX9_layFoes_58 : decode cX9_layFoes 58 = .ok (.bipush 47, 2) := by decide +kernel
theorem dX9_layFoes_60 : decode cX9_layFoes 60 = .ok (.iload_n 2, 1) := by decide +kernel
theorem dX9_layFoes_61 : decode cX9_layFoes 61 = .ok (.iadd, 1) := by decide +kernel
theorem dX9_layFoes_62 : decode cX9_layFoes 62 = .ok (.iaload, 1) := by decide +kernel
theorem dX9_layFoes_63 : decode cX9_layFoes 63 = .ok (.iconst 1, 1) := by decide +kernel
theorem dX9_layFoes_64 : decode cX9_layFoes 64 = .ok (.iload_n 1, 1) := by decide +kernel
theorem dX9_layFoes_65 : decode cX9_layFoes 65 = .ok (.ishl, 1) := by decide +kernel
theorem dX9_layFoes_66 : decode cX9_layFoes 66 = .ok (.iconst (-1), 1) := by decide +kernel
theorem dX9_layFoes_67 : decode cX9_layFoes 67 = .ok (.ixor, 1) := by decide +kernel
theorem dX9_layFoes_68 : decode cX9_layFoes 68 = .ok (.iand, 1) := by decide +kernel
theorem dX9_layFoes_69 : decode cX9_layFoes 69 = .ok (.iastore, 1) := by decide +kernel
theorem dX9_layFoes_70 : decode cX9_layFoes 70 = .ok (.return_, 1) := by decide +kernel
theorem dX9_quarrel_0 : decode cX9_quarrel 0 = .ok (.aload_n 0, 1) := by decide +kernel
theorem dX9_quarrel_1 : decode cX9_quarrel 1 = .ok (.iload_n 1, 1) := by decide +kernel
theorem dX9_quarrel_2 : decode cX9_quarrel 2 = .ok (.invokevirtual 83, 3) := by decide +kernel
theorem dX9_quarrel_5 : decode cX9_quarrel 5 = .ok (.ifCond .eq 26, 3) := by decide +kernel
theorem dX9_quarrel_8 : decode cX9_quarrel 8 = .ok (.aload_n 0, 1) := by decide +kernel
theorem dX9_quarrel_9 : decode cX9_quarrel 9 = .ok (.iload_n 2, 1) := by decide +kernel
theorem dX9_quarrel_10 : decode cX9_quarrel 10 = .ok (.invokevirtual 83, 3) := by decide +kernel
theorem dX9_quarrel_13 : decode cX9_quarrel 13 = .ok (.ifCond .eq 18, 3) := by decide +kernel
theorem dX9_quarrel_16 : decode cX9_quarrel 16 = .ok (.iload_n 1, 1) := by decide +kernel
theorem dX9_quarrel_17 : decode cX9_quarrel 17 = .ok (.iload_n 2, 1) := by decide +kernel
theorem dX9_quarrel_18 : decode cX9_quarrel 18 = .ok (.if_icmp .eq 13, 3) := by decide +kernel
theorem dX9_quarrel_21 : decode cX9_quarrel 21 = .ok (.iload_n 3, 1) := by decide +kernel
theorem dX9_quarrel_22 : decode cX9_quarrel 22 = .ok (.i2l, 1) := by decide +kernel
theorem dX9_quarrel_23 : decode cX9_quarrel 23 = .ok (.lconst 0, 1) := by decide +kernel
theorem dX9_quarrel_24 : decode cX9_quarrel 24 = .ok (.lconst 1, 1) := by decide +kernel
theorem dX9_quarrel_25 : decode cX9_quarrel 25 = .ok (.invokestatic 56, 3) := by decide +kernel
theorem dX9_quarrel_28 : decode cX9_quarrel 28 = .ok (.ifCond .ne 10, 3) := by decide +kernel
theorem dX9_quarrel_31 : decode cX9_quarrel 31 = .ok (.aload_n 0, 1) := by decide +kernel
theorem dX9_quarrel_32 : decode cX9_quarrel 32 = .ok (.bipush (-2), 2) := by decide +kernel
theorem dX9_quarrel_34 : decode cX9_quarrel 34 = .ok (.invokevirtual 64, 3) := by decide +kernel
theorem dX9_quarrel_37 : decode cX9_quarrel 37 = .ok (.ireturn, 1) := by decide +kernel
theorem dX9_quarrel_38 : decode cX9_quarrel 38 = .ok (.aload_n 0, 1) := by decide +kernel
theorem dX9_quarrel_39 : decode cX9_quarrel 39 = .ok (.getfield 7, 3) := by decide +kernel
theorem dX9_quarrel_42 : decode cX9_quarrel 42 = .ok (.bipush 47, 2) := by decide +kernel
theorem dX9_quarrel_44 : decode cX9_quarrel 44 = .ok (.iload_n 1, 1) := by decide +kernel
theorem dX9_quarrel_45 : decode cX9_quarrel 45 = .ok (.iadd, 1) := by decide +kernel
theorem dX9_quarrel_46 : decode cX9_quarrel 46 = .ok (.iaload, 1) := by decide +kernel
theorem dX9_quarrel_47 : decode cX9_quarrel 47 = .ok (.iload_n 2, 1) := by decide +kernel
theorem dX9_quarrel_48 : decode cX9_quarrel 48 = .ok (.ishr, 1) := by decide +kernel
theorem dX9_quarrel_49 : decode cX9_quarrel 49 = .ok (.iconst 1, 1) := by decide +kernel
theorem dX9_quarrel_50 : decode cX9_quarrel 50 = .ok (.iand, 1) := by decide +kernel
theorem dX9_quarrel_51 : decode cX9_quarrel 51 = .ok (.istore 4, 2) := by decide +kernel
theorem dX9_quarrel_53 : decode cX9_quarrel 53 = .ok (.aload_n 0, 1) := by decide +kernel
theorem dX9_quarrel_54 : decode cX9_quarrel 54 = .ok (.getfield 7, 3) := by decide +kernel
theorem dX9_quarrel_57 : decode cX9_quarrel 57 = .ok (.iload_n 1, 1) := by decide +kernel
theorem dX9_quarrel_58 : decode cX9_quarrel 58 = .ok (.iload_n 2, 1) := by decide +kernel
theorem dX9_quarrel_59 : decode cX9_quarrel 59 = .ok (.iload_n 3, 1) := by decide +kernel
theorem dX9_quarrel_60 : decode cX9_quarrel 60 = .ok (.iconst 1, 1) := by decide +kernel
theorem dX9_quarrel_61 : decode cX9_quarrel 61 = .ok (.if_icmp .ne 7, 3) := by decide +kernel
theorem dX9_quarrel_64 : decode cX9_quarrel 64 = .ok (.iconst 1, 1) := by decide +kernel
theorem dX9_quarrel_65 : decode cX9_quarrel 65 = .ok (.goto 4, 3) := by decide +kernel
theorem dX9_quarrel_68 : decode cX9_quarrel 68 = .ok (.iconst 0, 1) := by decide +kernel
theorem dX9_quarrel_69 : decode cX9_quarrel 69 = .ok (.invokestatic 86, 3) := by decide +kernel
theorem dX9_quarrel_72 : decode cX9_quarrel 72 = .ok (.aload_n 0, 1) := by decide +kernel
theorem dX9_quarrel_73 : decode cX9_quarrel 73 = .ok (.getfield 7, 3) := by decide +kernel
theorem dX9_quarrel_76 : decode cX9_quarrel 76 = .ok (.iconst 2, 1) := by decide +kernel
theorem dX9_quarrel_77 : decode cX9_quarrel 77 = .ok (.iconst 0, 1) := by decide +kernel
theorem dX9_quarrel_78 : decode cX9_quarrel 78 = .ok (.iastore, 1) := by decide +kernel
theorem dX9_quarrel_79 : decode cX9_quarrel 79 = .ok (.iload 4, 2) := by decide +kernel
theorem dX9_quarrel_81 : decode cX9_quarrel 81 = .ok (.ireturn, 1) := by decide +kernel
theorem dX9_swayAs_0 : decode cX9_swayAs 0 = .ok (.iload_n 1, 1) := by decide +kernel
theorem dX9_swayAs_1 : decode cX9_swayAs 1 = .ok (.iconst 1, 1) := by decide +kernel
theorem dX9_swayAs_2 : decode cX9_swayAs 2 = .ok (.iadd, 1) := by decide +kernel
theorem dX9_swayAs_3 : decode cX9_swayAs 3 = .ok (.iconst 2, 1) := by decide +kernel
theorem dX9_swayAs_4 : decode cX9_swayAs 4 = .ok (.idiv, 1) := by decide +kernel
theorem dX9_swayAs_5 : decode cX9_swayAs 5 = .ok (.istore_n 3, 1) := by decide +kernel
theorem dX9_swayAs_6 : decode cX9_swayAs 6 = .ok (.iload_n 0, 1) := by decide +kernel
theorem dX9_swayAs_7 : decode cX9_swayAs 7 = .ok (.tableswitch 56 1 5 #[33, 35, 56, 50, 54], 33) := by decide +kernel
theorem dX9_swayAs_40 : decode cX9_swayAs 40 = .ok (.iload_n 3, 1) := by decide +kernel
theorem dX9_swayAs_41 : decode cX9_swayAs 41 = .ok (.ireturn, 1) := by decide +kernel
theorem dX9_swayAs_42 : decode cX9_swayAs 42 = .ok (.iload_n 2, 1) := by decide +kernel
theorem dX9_swayAs_43 : decode cX9_swayAs 43 = .ok (.iconst 2, 1) := by decide +kernel
theorem dX9_swayAs_44 : decode cX9_swayAs 44 = .ok (.irem, 1) := by decide +kernel
theorem dX9_swayAs_45 : decode cX9_swayAs 45 = .ok (.iconst 1, 1) := by decide +kernel
theorem dX9_swayAs_46 : decode cX9_swayAs 46 = .ok (.if_icmp .ne 9, 3) := by decide +kernel
theorem dX9_swayAs_49 : decode cX9_swayAs 49 = .ok (.iconst 2, 1) := by decide +kernel
theorem dX9_swayAs_50 : decode cX9_swayAs 50 = .ok (.iload_n 1, 1) := by decide +kernel
theorem dX9_swayAs_51 : decode cX9_swayAs 51 = .ok (.imul, 1) := by decide +kernel
theorem dX9_swayAs_52 : decode cX9_swayAs 52 = .ok (.goto 4, 3) := by decide +kernel
theorem dX9_swayAs_55 : decode cX9_swayAs 55 = .ok (.iload_n 1, 1) := by decide +kernel
theorem dX9_swayAs_56 : decode cX9_swayAs 56 = .ok (.ireturn, 1) := by decide +kernel
theorem dX9_swayAs_57 : decode cX9_swayAs 57 = .ok (.iload_n 3, 1) := by decide +kernel
theorem dX9_swayAs_58 : decode cX9_swayAs 58 = .ok (.iconst 1, 1) := by decide +kernel
theorem dX9_swayAs_59 : decode cX9_swayAs 59 = .ok (.iadd, 1) := by decide +kernel
theorem dX9_swayAs_60 : decode cX9_swayAs 60 = .ok (.ireturn, 1) := by decide +kernel
theorem dX9_swayAs_61 : decode cX9_swayAs 61 = .ok (.iconst 0, 1) := by decide +kernel
theorem dX9_swayAs_62 : decode cX9_swayAs 62 = .ok (.ireturn, 1) := by decide +kernel
theorem dX9_swayAs_63 : decode cX9_swayAs 63 = .ok (.iload_n 1, 1) := by decide +kernel
theorem dX9_swayAs_64 : decode cX9_swayAs 64 = .ok (.ireturn, 1) := by decide +kernel
theorem dX9_tallAs_0 : decode cX9_tallAs 0 = .ok (.iload_n 0, 1) := by decide +kernel
theorem dX9_tallAs_1 : decode cX9_tallAs 1 = .ok (.tableswitch 47 1 5 #[35, 47, 37, 39, 45], 35) := by decide +kernel
theorem dX9_tallAs_36 : decode cX9_tallAs 36 = .ok (.iconst 2, 1) := by decide +kernel
theorem dX9_tallAs_37 : decode cX9_tallAs 37 = .ok (.ireturn, 1) := by decide +kernel
theorem dX9_tallAs_38 : decode cX9_tallAs 38 = .ok (.iconst 5, 1) := by decide +kernel
theorem dX9_tallAs_39 : decode cX9_tallAs 39 = .ok (.ireturn, 1) := by decide +kernel
theorem dX9_tallAs_40 : decode cX9_tallAs 40 = .ok (.iconst 2, 1) := by decide +kernel
theorem dX9_tallAs_41 : decode cX9_tallAs 41 = .ok (.iload_n 1, 1) := by decide +kernel
theorem dX9_tallAs_42 : decode cX9_tallAs 42 = .ok (.iconst 3, 1) := by decide +kernel
theorem dX9_tallAs_43 : decode cX9_tallAs 43 = .ok (.idiv, 1) := by decide +kernel
theorem dX9_tallAs_44 : decode cX9_tallAs 44 = .ok (.iadd, 1) := by decide +kernel
theorem dX9_tallAs_45 : decode cX9_tallAs 45 = .ok (.ireturn, 1) := by decide +kernel
theorem dX9_tallAs_46 : decode cX9_tallAs 46 = .ok (.iconst 4, 1) := by decide +kernel
theorem dX9_tallAs_47 : decode cX9_tallAs 47 = .ok (.ireturn, 1) := by decide +kernel
theorem dX9_tallAs_48 : decode cX9_tallAs 48 = .ok (.iconst 3, 1) := by decide +kernel
theorem dX9_tallAs_49 : decode cX9_tallAs 49 = .ok (.ireturn, 1) := by decide +kernel
theorem dX9_layHand_0 : decode cX9_layHand 0 = .ok (.iconst 0, 1) := by decide +kernel
theorem dX9_layHand_1 : decode cX9_layHand 1 = .ok (.istore_n 1, 1) := by decide +kernel
theorem dX9_layHand_2 : decode cX9_layHand 2 = .ok (.iload_n 1, 1) := by decide +kernel
theorem dX9_layHand_3 : decode cX9_layHand 3 = .ok (.bipush 54, 2) := by decide +kernel
theorem dX9_layHand_5 : decode cX9_layHand 5 = .ok (.if_icmp .ge 21, 3) := by decide +kernel
theorem dX9_layHand_8 : decode cX9_layHand 8 = .ok (.aload_n 0, 1) := by decide +kernel
theorem dX9_layHand_9 : decode cX9_layHand 9 = .ok (.getfield 27, 3) := by decide +kernel
theorem dX9_layHand_12 : decode cX9_layHand 12 = .ok (.iload_n 1, 1) := by decide +kernel
theorem dX9_layHand_13 : decode cX9_layHand 13 = .ok (.aload_n 0, 1) := by decide +kernel
theorem dX9_layHand_14 : decode cX9_layHand 14 = .ok (.getfield 7, 3) := by decide +kernel
theorem dX9_layHand_17 : decode cX9_layHand 17 = .ok (.iload_n 1, 1) := by decide +kernel
theorem dX9_layHand_18 : decode cX9_layHand 18 = .ok (.iaload, 1) := by decide +kernel
theorem dX9_layHand_19 : decode cX9_layHand 19 = .ok (.iastore, 1) := by decide +kernel
theorem dX9_layHand_20 : decode cX9_layHand 20 = .ok (.iinc 1 1, 3) := by decide +kernel
theorem dX9_layHand_23 : decode cX9_layHand 23 = .ok (.goto (-21), 3) := by decide +kernel
theorem dX9_layHand_26 : decode cX9_layHand 26 = .ok (.return_, 1) := by decide +kernel
theorem dX9_layStart_0 : decode cX9_layStart 0 = .ok (.aload_n 0, 1) := by decide +kernel
theorem dX9_layStart_1 : decode cX9_layStart 1 = .ok (.invokevirtual 90, 3) := by decide +kernel
theorem dX9_layStart_4 : decode cX9_layStart 4 = .ok (.aload_n 0, 1) := by decide +kernel
theorem dX9_layStart_5 : decode cX9_layStart 5 = .ok (.getfield 27, 3) := by decide +kernel
theorem dX9_layStart_8 : decode cX9_layStart 8 = .ok (.iconst 3, 1) := by decide +kernel
theorem dX9_layStart_9 : decode cX9_layStart 9 = .ok (.iconst 0, 1) := by decide +kernel
theorem dX9_layStart_10 : decode cX9_layStart 10 = .ok (.iastore, 1) := by decide +kernel
theorem dX9_layStart_11 : decode cX9_layStart 11 = .ok (.aload_n 0, 1) := by decide +kernel
theorem dX9_layStart_12 : decode cX9_layStart 12 = .ok (.getfield 27, 3) := by decide +kernel
theorem dX9_layStart_15 : decode cX9_layStart 15 = .ok (.iconst 4, 1) := by decide +kernel
theorem dX9_layStart_16 : decode cX9_layStart 16 = .ok (.iconst 0, 1) := by decide +kernel
theorem dX9_layStart_17 : decode cX9_layStart 17 = .ok (.iastore, 1) := by decide +kernel
theorem dX9_layStart_18 : decode cX9_layStart 18 = .ok (.aload_n 0, 1) := by decide +kernel
theorem dX9_layStart_19 : decode cX9_layStart 19 = .ok (.getfield 27, 3) := by decide +kernel
theorem dX9_layStart_22 : decode cX9_layStart 22 = .ok (.iconst 5, 1) := by decide +kernel
theorem dX9_layStart_23 : decode cX9_layStart 23 = .ok (.iconst 0, 1) := by decide +kernel
theorem dX9_layStart_24 : decode cX9_layStart 24 = .ok (.iastore, 1) := by decide +kernel
theorem dX9_layStart_25 : decode cX9_layStart 25 = .ok (.aload_n 0, 1) := by decide +kernel
theorem dX9_layStart_26 : decode cX9_layStart 26 = .ok (.getfield 27, 3) := by decide +kernel
theorem dX9_layStart_29 : decode cX9_layStart 29 = .ok (.bipush 6, 2) := by decide +kernel
theorem dX9_layStart_31 : decode cX9_layStart 31 = .ok (.iconst 0, 1) := by decide +kernel
theorem dX9_layStart_32 : decode cX9_layStart 32 = .ok (.iastore, 1) := by decide +kernel
theorem dX9_layStart_33 : decode cX9_layStart 33 = .ok (.aload_n 0, 1) := by decide +kernel
theorem dX9_layStart_34 : decode cX9_layStart 34 = .ok (.getfield 27, 3) := by decide +kernel
theorem dX9_layStart_37 : decode cX9_layStart 37 = .ok (.bipush 7, 2) := by decide +kernel
theorem dX9_layStart_39 : decode cX9_layStart 39 = .ok (.iconst 0, 1) := by decide +kernel
theorem dX9_layStart_40 : decode cX9_layStart 40 = .ok (.iastore, 1) := by decide +kernel
theorem dX9_layStart_41 : decode cX9_layStart 41 = .ok (.return_, 1) := by decide +kernel
theorem dX9_swayOf_0 : decode cX9_swayOf 0 = .ok (.aload_n 0, 1) := by decide +kernel
theorem dX9_swayOf_1 : decode cX9_swayOf 1 = .ok (.getfield 27, 3) := by decide +kernel
theorem dX9_swayOf_4 : decode cX9_swayOf 4 = .ok (.bipush 19, 2) := by decide +kernel
theorem dX9_swayOf_6 : decode cX9_swayOf 6 = .ok (.iload_n 1, 1) := by decide +kernel
theorem dX9_swayOf_7 : decode cX9_swayOf 7 = .ok (.iadd, 1) := by decide +kernel
theorem dX9_swayOf_8 : decode cX9_swayOf 8 = .ok (.iaload, 1) := by decide +kernel
theorem dX9_swayOf_9 : decode cX9_swayOf 9 = .ok (.aload_n 0, 1) := by decide +kernel
theorem dX9_swayOf_10 : decode cX9_swayOf 10 = .ok (.getfield 27, 3) := by decide +kernel
theorem dX9_swayOf_13 : decode cX9_swayOf 13 = .ok (.bipush 26, 2) := by decide +kernel
theorem dX9_swayOf_15 : decode cX9_swayOf 15 = .ok (.iload_n 1, 1) := by decide +kernel
theorem dX9_swayOf_16 : decode cX9_swayOf 16 = .ok (.iadd, 1) := by decide +kernel
theorem dX9_swayOf_17 : decode cX9_swayOf 17 = .ok (.iaload, 1) := by decide +kernel
theorem dX9_swayOf_18 : decode cX9_swayOf 18 = .ok (.iload_n 2, 1) := by decide +kernel
theorem dX9_swayOf_19 : decode cX9_swayOf 19 = .ok (.invokestatic 93, 3) := by decide +kernel
theorem dX9_swayOf_22 : decode cX9_swayOf 22 = .ok (.ireturn, 1) := by decide +kernel
theorem dX9_swayOfAll_0 : decode cX9_swayOfAll 0 = .ok (.iconst 0, 1) := by decide +kernel
theorem dX9_swayOfAll_1 : decode cX9_swayOfAll 1 = .ok (.istore_n 3, 1) := by decide +kernel
theorem dX9_swayOfAll_2 : decode cX9_swayOfAll 2 = .ok (.iconst 0, 1) := by decide +kernel
theorem dX9_swayOfAll_3 : decode cX9_swayOfAll 3 = .ok (.istore 4, 2) := by decide +kernel
theorem dX9_swayOfAll_5 : decode cX9_swayOfAll 5 = .ok (.iload 4, 2) := by decide +kernel
theorem dX9_swayOfAll_7 : decode cX9_swayOfAll 7 = .ok (.aload_n 0, 1) := by decide +kernel
theorem dX9_swayOfAll_8 : decode cX9_swayOfAll 8 = .ok (.invokevirtual 52, 3) := by decide +kernel
theorem dX9_swayOfAll_11 : decode cX9_swayOfAll 11 = .ok (.if_icmp .ge 32, 3) := by decide +kernel
theorem dX9_swayOfAll_14 : decode cX9_swayOfAll 14 = .ok (.iload_n 3, 1) := by decide +kernel
theorem dX9_swayOfAll_15 : decode cX9_swayOfAll 15 = .ok (.iload_n 1, 1) := by decide +kernel
theorem dX9_swayOfAll_16 : decode cX9_swayOfAll 16 = .ok (.iload 4, 2) := by decide +kernel
theorem dX9_swayOfAll_18 : decode cX9_swayOfAll 18 = .ok (.invokestatic 97, 3) := by decide +kernel
theorem dX9_swayOfAll_21 : decode cX9_swayOfAll 21 = .ok (.ifCond .eq 13, 3) := by decide +kernel
theorem dX9_swayOfAll_24 : decode cX9_swayOfAll 24 = .ok (.aload_n 0, 1) := by decide +kernel
theorem dX9_swayOfAll_25 : decode cX9_swayOfAll 25 = .ok (.iload 4, 2) := by decide +kernel
theorem dX9_swayOfAll_27 : decode cX9_swayOfAll 27 = .ok (.iload_n 2, 1) := by decide +kernel
theorem dX9_swayOfAll_28 : decode cX9_swayOfAll 28 = .ok (.invokevirtual 101, 3) := by decide +kernel
theorem dX9_swayOfAll_31 : decode cX9_swayOfAll 31 = .ok (.goto 4, 3) := by decide +kernel
theorem dX9_swayOfAll_34 : decode cX9_swayOfAll 34 = .ok (.iconst 0, 1) := by decide +kernel
theorem dX9_swayOfAll_35 : decode cX9_swayOfAll 35 = .ok (.iadd, 1) := by decide +kernel
theorem dX9_swayOfAll_36 : decode cX9_swayOfAll 36 = .ok (.istore_n 3, 1) := by decide +kernel
theorem dX9_swayOfAll_37 : decode cX9_swayOfAll 37 = .ok (.iinc 4 1, 3) := by decide +kernel
theorem dX9_swayOfAll_40 : decode cX9_swayOfAll 40 = .ok (.goto (-35), 3) := by decide +kernel
theorem dX9_swayOfAll_43 : decode cX9_swayOfAll 43 = .ok (.iload_n 3, 1) := by decide +kernel
theorem dX9_swayOfAll_44 : decode cX9_swayOfAll 44 = .ok (.ireturn, 1) := by decide +kernel
theorem dX9_goStop_0 : decode cX9_goStop 0 = .ok (.aload_n 0, 1) := by decide +kernel
theorem dX9_goStop_1 : decode cX9_goStop 1 = .ok (.getfield 27, 3) := by decide +kernel
theorem dX9_goStop_4 : decode cX9_goStop 4 = .ok (.iconst 3, 1) := by decide +kernel
theorem dX9_goStop_5 : decode cX9_goStop 5 = .ok (.iaload, 1) := by decide +kernel
theorem dX9_goStop_6 : decode cX9_goStop 6 = .ok (.istore_n 1, 1) := by decide +kernel
theorem dX9_goStop_7 : decode cX9_goStop 7 = .ok (.iconst 0, 1) := by decide +kernel
theorem dX9_goStop_8 : decode cX9_goStop 8 = .ok (.istore_n 2, 1) := by decide +kernel
theorem dX9_goStop_9 : decode cX9_goStop 9 = .ok (.iload_n 2, 1) := by decide +kernel
theorem dX9_goStop_10 : decode cX9_goStop 10 = .ok (.aload_n 0, 1) := by decide +kernel
theorem dX9_goStop_11 : decode cX9_goStop 11 = .ok (.invokevirtual 52, 3) := by decide +kernel
theorem dX9_goStop_14 : decode cX9_goStop 14 = .ok (.if_icmp .ge 40, 3) := by decide +kernel
theorem dX9_goStop_17 : decode cX9_goStop 17 = .ok (.aload_n 0, 1) := by decide +kernel
theorem dX9_goStop_18 : decode cX9_goStop 18 = .ok (.getfield 27, 3) := by decide +kernel
theorem dX9_goStop_21 : decode cX9_goStop 21 = .ok (.iconst 4, 1) := by decide +kernel
theorem dX9_goStop_22 : decode cX9_goStop 22 = .ok (.dup2, 1) := by decide +kernel
theorem dX9_goStop_23 : decode cX9_goStop 23 = .ok (.iaload, 1) := by decide +kernel
theorem dX9_goStop_24 : decode cX9_goStop 24 = .ok (.aload_n 0, 1) := by decide +kernel
theorem dX9_goStop_25 : decode cX9_goStop 25 = .ok (.getfield 27, 3) := by decide +kernel
theorem dX9_goStop_28 : decode cX9_goStop 28 = .ok (.bipush 40, 2) := by decide +kernel
theorem dX9_goStop_30 : decode cX9_goStop 30 = .ok (.iload_n 2, 1) := by decide +kernel
theorem dX9_goStop_31 : decode cX9_goStop 31 = .ok (.iadd, 1) := by decide +kernel
theorem dX9_goStop_32 : decode cX9_goStop 32 = .ok (.iaload, 1) := by decide +kernel
theorem dX9_goStop_33 : decode cX9_goStop 33 = .ok (.iload_n 1, 1) := by decide +kernel
theorem dX9_goStop_34 : decode cX9_goStop 34 = .ok (.if_icmp .ne 11, 3) := by decide +kernel
theorem dX9_goStop_37 : decode cX9_goStop 37 = .ok (.iconst 1, 1) := by decide +kernel
theorem dX9_goStop_38 : decode cX9_goStop 38 = .ok (.iload_n 2, 1) := by decide +kernel
theorem dX9_goStop_39 : decode cX9_goStop 39 = .ok (.ishl, 1) := by decide +kernel
theorem dX9_goStop_40 : decode cX9_goStop 40 = .ok (.iconst (-1), 1) := by decide +kernel
theorem dX9_goStop_41 : decode cX9_goStop 41 = .ok (.ixor, 1) := by decide +kernel
theorem dX9_goStop_42 : decode cX9_goStop 42 = .ok (.goto 4, 3) := by decide +kernel
theorem dX9_goStop_45 : decode cX9_goStop 45 = .ok (.iconst (-1), 1) := by decide +kernel
theorem dX9_goStop_46 : decode cX9_goStop 46 = .ok (.iand, 1) := by decide +kernel
theorem dX9_goStop_47 : decode cX9_goStop 47 = .ok (.iastore, 1) := by decide +kernel
theorem dX9_goStop_48 : decode cX9_goStop 48 = .ok (.iinc 2 1, 3) := by decide +kernel
theorem dX9_goStop_51 : decode cX9_goStop 51 = .ok (.goto (-42), 3) := by decide +kernel
theorem dX9_goStop_54 : decode cX9_goStop 54 = .ok (.iconst 0, 1) := by decide +kernel
theorem dX9_goStop_55 : decode cX9_goStop 55 = .ok (.istore_n 2, 1) := by decide +kernel
theorem dX9_goStop_56 : decode cX9_goStop 56 = .ok (.iload_n 2, 1) := by decide +kernel
theorem dX9_goStop_57 : decode cX9_goStop 57 = .ok (.aload_n 0, 1) := by decide +kernel
theorem dX9_goStop_58 : decode cX9_goStop 58 = .ok (.invokevirtual 52, 3) := by decide +kernel
theorem dX9_goStop_61 : decode cX9_goStop 61 = .ok (.if_icmp .ge 107, 3) := by decide +kernel
theorem dX9_goStop_64 : decode cX9_goStop 64 = .ok (.aload_n 0, 1) := by decide +kernel
theorem dX9_goStop_65 : decode cX9_goStop 65 = .ok (.getfield 27, 3) := by decide +kernel
theorem dX9_goStop_68 : decode cX9_goStop 68 = .ok (.bipush 33, 2) := by decide +kernel
theorem dX9_goStop_70 : decode cX9_goStop 70 = .ok (.iload_n 2, 1) := by decide +kernel
theorem dX9_goStop_71 : decode cX9_goStop 71 = .ok (.iadd, 1) := by decide +kernel
theorem dX9_goStop_72 : decode cX9_goStop 72 = .ok (.iaload, 1) := by decide +kernel
theorem dX9_goStop_73 : decode cX9_goStop 73 = .ok (.iload_n 1, 1) := by decide +kernel
theorem dX9_goStop_74 : decode cX9_goStop 74 = .ok (.if_icmp .ne 88, 3) := by decide +kernel
theorem dX9_goStop_77 : decode cX9_goStop 77 = .ok (.aload_n 0, 1) := by decide +kernel
theorem dX9_goStop_78 : decode cX9_goStop 78 = .ok (.getfield 27, 3) := by decide +kernel
theorem dX9_goStop_81 : decode cX9_goStop 81 = .ok (.iconst 4, 1) := by decide +kernel
theorem dX9_goStop_82 : decode cX9_goStop 82 = .ok (.iaload, 1) := by decide +kernel
theorem dX9_goStop_83 : decode cX9_goStop 83 = .ok (.invokestatic 105, 3) := by decide +kernel
theorem dX9_goStop_86 : decode cX9_goStop 86 = .ok (.aload_n 0, 1) := by decide +kernel
theorem dX9_goStop_87 : decode cX9_goStop 87 = .ok (.getfield 27, 3) := by decide +kernel
theorem dX9_goStop_90 : decode cX9_goStop 90 = .ok (.bipush 8, 2) := by decide +kernel
theorem dX9_goStop_92 : decode cX9_goStop 92 = .ok (.iaload, 1) := by decide +kernel
theorem dX9_goStop_93 : decode cX9_goStop 93 = .ok (.if_icmp .ge 26, 3) := by decide +kernel
theorem dX9_goStop_96 : decode cX9_goStop 96 = .ok (.aload_n 0, 1) := by decide +kernel
theorem dX9_goStop_97 : decode cX9_goStop 97 = .ok (.getfield 27, 3) := by decide +kernel
theorem dX9_goStop_100 : decode cX9_goStop 100 = .ok (.iconst 4, 1) := by decide +kernel
theorem dX9_goStop_101 : decode cX9_goStop 101 = .ok (.iaload, 1) := by decide +kernel
theorem dX9_goStop_102 : decode cX9_goStop 102 = .ok (.aload_n 0, 1) := by decide +kernel
theorem dX9_goStop_103 : decode cX9_goStop 103 = .ok (.getfield 27, 3) := by decide +kernel
theorem dX9_goStop_106 : decode cX9_goStop 106 = .ok (.bipush 47, 2) := by decide +kernel
theorem dX9_goStop_108 : decode cX9_goStop 108 = .ok (.iload_n 2, 1) := by decide +kernel
theorem dX9_goStop_109 : decode cX9_goStop 109 = .ok (.iadd, 1) := by decide +kernel
theorem dX9_goStop_110 : decode cX9_goStop 110 = .ok (.iaload, 1) := by decide +kernel
theorem dX9_goStop_111 : decode cX9_goStop 111 = .ok (.iand, 1) := by decide +kernel
theorem dX9_goStop_112 : decode cX9_goStop 112 = .ok (.ifCond .ne 7, 3) := by decide +kernel
theorem dX9_goStop_115 : decode cX9_goStop 115 = .ok (.iconst 1, 1) := by decide +kernel
theorem dX9_goStop_116 : decode cX9_goStop 116 = .ok (.goto 4, 3) := by decide +kernel
theorem dX9_goStop_119 : decode cX9_goStop 119 = .ok (.iconst 0, 1) := by decide +kernel
theorem dX9_goStop_120 : decode cX9_goStop 120 = .ok (.istore_n 3, 1) := by decide +kernel
theorem dX9_goStop_121 : decode cX9_goStop 121 = .ok (.aload_n 0, 1) := by decide +kernel
theorem dX9_goStop_122 : decode cX9_goStop 122 = .ok (.getfield 27, 3) := by decide +kernel
theorem dX9_goStop_125 : decode cX9_goStop 125 = .ok (.iconst 4, 1) := by decide +kernel
theorem dX9_goStop_126 : decode cX9_goStop 126 = .ok (.dup2, 1) := by decide +kernel
theorem dX9_goStop_127 : decode cX9_goStop 127 = .ok (.iaload, 1) := by decide +kernel
theorem dX9_goStop_128 : decode cX9_goStop 128 = .ok (.iload_n 3, 1) := by decide +kernel
theorem dX9_goStop_129 : decode cX9_goStop 129 = .ok (.ifCond .eq 9, 3) := by decide +kernel
theorem dX9_goStop_132 : decode cX9_goStop 132 = .ok (.iconst 1, 1) := by decide +kernel
theorem dX9_goStop_133 : decode cX9_goStop 133 = .ok (.iload_n 2, 1) := by decide +kernel
theorem dX9_goStop_134 : decode cX9_goStop 134 = .ok (.ishl, 1) := by decide +kernel
theorem dX9_goStop_135 : decode cX9_goStop 135 = .ok (.goto 4, 3) := by decide +kernel
theorem dX9_goStop_138 : decode cX9_goStop 138 = .ok (.iconst 0, 1) := by decide +kernel
theorem dX9_goStop_139 : decode cX9_goStop 139 = .ok (.ior, 1) := by decide +kernel
theorem dX9_goStop_140 : decode cX9_goStop 140 = .ok (.iastore, 1) := by decide +kernel
theorem dX9_goStop_141 : decode cX9_goStop 141 = .ok (.aload_n 0, 1) := by decide +kernel
theorem dX9_goStop_142 : decode cX9_goStop 142 = .ok (.getfield 27, 3) := by decide +kernel
theorem dX9_goStop_145 : decode cX9_goStop 145 = .ok (.bipush 6, 2) := by decide +kernel
theorem dX9_goStop_147 : decode cX9_goStop 147 = .ok (.dup2, 1) := by decide +kernel
theorem dX9_goStop_148 : decode cX9_goStop 148 = .ok (.iaload, 1) := by decide +kernel
theorem dX9_goStop_149 : decode cX9_goStop 149 = .ok (.iload_n 3, 1) := by decide +kernel
theorem dX9_goStop_150 : decode cX9_goStop 150 = .ok (.ifCond .eq 7, 3) := by decide +kernel
theorem dX9_goStop_153 : decode cX9_goStop 153 = .ok (.iconst 0, 1) := by decide +kernel
theorem dX9_goStop_154 : decode cX9_goStop 154 = .ok (.goto 6, 3) := by decide +kernel
theorem dX9_goStop_157 : decode cX9_goStop 157 = .ok (.iconst 1, 1) := by decide +kernel
theorem dX9_goStop_158 : decode cX9_goStop 158 = .ok (.iload_n 2, 1) := by decide +kernel
theorem dX9_goStop_159 : decode cX9_goStop 159 = .ok (.ishl, 1) := by decide +kernel
theorem dX9_goStop_160 : decode cX9_goStop 160 = .ok (.ior, 1) := by decide +kernel
theorem dX9_goStop_161 : decode cX9_goStop 161 = .ok (.iastore, 1) := by decide +kernel
theorem dX9_goStop_162 : decode cX9_goStop 162 = .ok (.iinc 2 1, 3) := by decide +kernel
theorem dX9_goStop_165 : decode cX9_goStop 165 = .ok (.goto (-109), 3) := by decide +kernel
theorem dX9_goStop_168 : decode cX9_goStop 168 = .ok (.iconst 0, 1) := by decide +kernel
theorem dX9_goStop_169 : decode cX9_goStop 169 = .ok (.istore_n 2, 1) := by decide +kernel
theorem dX9_goStop_170 : decode cX9_goStop 170 = .ok (.iload_n 2, 1) := by decide +kernel
theorem dX9_goStop_171 : decode cX9_goStop 171 = .ok (.aload_n 0, 1) := by decide +kernel
theorem dX9_goStop_172 : decode cX9_goStop 172 = .ok (.invokevirtual 52, 3) := by decide +kernel
theorem dX9_goStop_175 : decode cX9_goStop 175 = .ok (.if_icmp .ge 107, 3) := by decide +kernel
theorem dX9_goStop_178 : decode cX9_goStop 178 = .ok (.aload_n 0, 1) := by decide +kernel
theorem dX9_goStop_179 : decode cX9_goStop 179 = .ok (.getfield 27, 3) := by decide +kernel
theorem dX9_goStop_182 : decode cX9_goStop 182 = .ok (.bipush 9, 2) := by decide +kernel
theorem dX9_goStop_184 : decode cX9_goStop 184 = .ok (.iload_n 1, 1) := by decide +kernel
theorem dX9_goStop_185 : decode cX9_goStop 185 = .ok (.iadd, 1) := by decide +kernel
theorem dX9_goStop_186 : decode cX9_goStop 186 = .ok (.iaload, 1) := by decide +kernel
theorem dX9_goStop_187 : decode cX9_goStop 187 = .ok (.ifCond .le 95, 3) := by decide +kernel
theorem dX9_goStop_190 : decode cX9_goStop 190 = .ok (.aload_n 0, 1) := by decide +kernel
theorem dX9_goStop_191 : decode cX9_goStop 191 = .ok (.getfield 27, 3) := by decide +kernel
theorem dX9_goStop_194 : decode cX9_goStop 194 = .ok (.iconst 4, 1) := by decide +kernel
theorem dX9_goStop_195 : decode cX9_goStop 195 = .ok (.iaload, 1) := by decide +kernel
theorem dX9_goStop_196 : decode cX9_goStop 196 = .ok (.iload_n 2, 1) := by decide +kernel
theorem dX9_goStop_197 : decode cX9_goStop 197 = .ok (.invokestatic 97, 3) := by decide +kernel
theorem dX9_goStop_200 : decode cX9_goStop 200 = .ok (.ifCond .eq 32, 3) := by decide +kernel
theorem dX9_goStop_203 : decode cX9_goStop 203 = .ok (.aload_n 0, 1) := by decide +kernel
theorem dX9_goStop_204 : decode cX9_goStop 204 = .ok (.getfield 27, 3) := by decide +kernel
theorem dX9_goStop_207 : decode cX9_goStop 207 = .ok (.bipush 19, 2) := by decide +kernel
theorem dX9_goStop_209 : decode cX9_goStop 209 = .ok (.iload_n 2, 1) := by decide +kernel
theorem dX9_goStop_210 : decode cX9_goStop 210 = .ok (.iadd, 1) := by decide +kernel
theorem dX9_goStop_211 : decode cX9_goStop 211 = .ok (.iaload, 1) := by decide +kernel
theorem dX9_goStop_212 : decode cX9_goStop 212 = .ok (.iload_n 1, 1) := by decide +kernel
theorem dX9_goStop_213 : decode cX9_goStop 213 = .ok (.invokestatic 108, 3) := by decide +kernel
theorem dX9_goStop_216 : decode cX9_goStop 216 = .ok (.aload_n 0, 1) := by decide +kernel
theorem dX9_goStop_217 : decode cX9_goStop 217 = .ok (.getfield 27, 3) := by decide +kernel
theorem dX9_goStop_220 : decode cX9_goStop 220 = .ok (.bipush 9, 2) := by decide +kernel
theorem dX9_goStop_222 : decode cX9_goStop 222 = .ok (.iload_n 1, 1) := by decide +kernel
theorem dX9_goStop_223 : decode cX9_goStop 223 = .ok (.iadd, 1) := by decide +kernel
theorem dX9_goStop_224 : decode cX9_goStop 224 = .ok (.iaload, 1) := by decide +kernel
theorem dX9_goStop_225 : decode cX9_goStop 225 = .ok (.if_icmp .le 7, 3) := by decide +kernel
theorem dX9_goStop_228 : decode cX9_goStop 228 = .ok (.iconst 1, 1) := by decide +kernel
theorem dX9_goStop_229 : decode cX9_goStop 229 = .ok (.goto 4, 3) := by decide +kernel
theorem dX9_goStop_232 : decode cX9_goStop 232 = .ok (.iconst 0, 1) := by decide +kernel
theorem dX9_goStop_233 : decode cX9_goStop 233 = .ok (.istore_n 3, 1) := by decide +kernel
theorem dX9_goStop_234 : decode cX9_goStop 234 = .ok (.aload_n 0, 1) := by decide +kernel
theorem dX9_goStop_235 : decode cX9_goStop 235 = .ok (.getfield 27, 3) := by decide +kernel
theorem dX9_goStop_238 : decode cX9_goStop 238 = .ok (.iconst 5, 1) := by decide +kernel
theorem dX9_goStop_239 : decode cX9_goStop 239 = .ok (.dup2, 1) := by decide +kernel
theorem dX9_goStop_240 : decode cX9_goStop 240 = .ok (.iaload, 1) := by decide +kernel
theorem dX9_goStop_241 : decode cX9_goStop 241 = .ok (.iload_n 3, 1) := by decide +kernel
theorem dX9_goStop_242 : decode cX9_goStop 242 = .ok (.ifCond .eq 9, 3) := by decide +kernel
theorem dX9_goStop_245 : decode cX9_goStop 245 = .ok (.iconst 1, 1) := by decide +kernel
theorem dX9_goStop_246 : decode cX9_goStop 246 = .ok (.iload_n 2, 1) := by decide +kernel
theorem dX9_goStop_247 : decode cX9_goStop 247 = .ok (.ishl, 1) := by decide +kernel
theorem dX9_goStop_248 : decode cX9_goStop 248 = .ok (.goto 4, 3) := by decide +kernel
theorem dX9_goStop_251 : decode cX9_goStop 251 = .ok (.iconst 0, 1) := by decide +kernel
theorem dX9_goStop_252 : decode cX9_goStop 252 = .ok (.ior, 1) := by decide +kernel
theorem dX9_goStop_253 : decode cX9_goStop 253 = .ok (.iastore, 1) := by decide +kernel
theorem dX9_goStop_254 : decode cX9_goStop 254 = .ok (.aload_n 0, 1) := by decide +kernel
theorem dX9_goStop_255 : decode cX9_goStop 255 = .ok (.getfield 27, 3) := by decide +kernel
theorem dX9_goStop_258 : decode cX9_goStop 258 = .ok (.iconst 4, 1) := by decide +kernel
theorem dX9_goStop_259 : decode cX9_goStop 259 = .ok (.dup2, 1) := by decide +kernel
theorem dX9_goStop_260 : decode cX9_goStop 260 = .ok (.iaload, 1) := by decide +kernel
theorem dX9_goStop_261 : decode cX9_goStop 261 = .ok (.iload_n 3, 1) := by decide +kernel
theorem dX9_goStop_262 : decode cX9_goStop 262 = .ok (.ifCond .eq 11, 3) := by decide +kernel
theorem dX9_goStop_265 : decode cX9_goStop 265 = .ok (.iconst 1, 1) := by decide +kernel
theorem dX9_goStop_266 : decode cX9_goStop 266 = .ok (.iload_n 2, 1) := by decide +kernel
theorem dX9_goStop_267 : decode cX9_goStop 267 = .ok (.ishl, 1) := by decide +kernel
theorem dX9_goStop_268 : decode cX9_goStop 268 = .ok (.iconst (-1), 1) := by decide +kernel
theorem dX9_goStop_269 : decode cX9_goStop 269 = .ok (.ixor, 1) := by decide +kernel
theorem dX9_goStop_270 : decode cX9_goStop 270 = .ok (.goto 4, 3) := by decide +kernel
theorem dX9_goStop_273 : decode cX9_goStop 273 = .ok (.iconst (-1), 1) := by decide +kernel
theorem dX9_goStop_274 : decode cX9_goStop 274 = .ok (.iand, 1) := by decide +kernel
theorem dX9_goStop_275 : decode cX9_goStop 275 = .ok (.iastore, 1) := by decide +kernel
theorem dX9_goStop_276 : decode cX9_goStop 276 = .ok (.iinc 2 1, 3) := by decide +kernel
theorem dX9_goStop_279 : decode cX9_goStop 279 = .ok (.goto (-109), 3) := by decide +kernel
theorem dX9_goStop_282 : decode cX9_goStop 282 = .ok (.aload_n 0, 1) := by decide +kernel
theorem dX9_goStop_283 : decode cX9_goStop 283 = .ok (.getfield 27, 3) := by decide +kernel
theorem dX9_goStop_286 : decode cX9_goStop 286 = .ok (.bipush 7, 2) := by decide +kernel
theorem dX9_goStop_288 : decode cX9_goStop 288 = .ok (.dup2, 1) := by decide +kernel
theorem dX9_goStop_289 : decode cX9_goStop 289 = .ok (.iaload, 1) := by decide +kernel
theorem dX9_goStop_290 : decode cX9_goStop 290 = .ok (.aload_n 0, 1) := by decide +kernel
theorem dX9_goStop_291 : decode cX9_goStop 291 = .ok (.aload_n 0, 1) := by decide +kernel
theorem dX9_goStop_292 : decode cX9_goStop 292 = .ok (.getfield 27, 3) := by decide +kernel
theorem dX9_goStop_295 : decode cX9_goStop 295 = .ok (.iconst 4, 1) := by decide +kernel
theorem dX9_goStop_296 : decode cX9_goStop 296 = .ok (.iaload, 1) := by decide +kernel
theorem dX9_goStop_297 : decode cX9_goStop 297 = .ok (.iload_n 1, 1) := by decide +kernel
theorem dX9_goStop_298 : decode cX9_goStop 298 = .ok (.invokevirtual 111, 3) := by decide +kernel
theorem dX9_goStop_301 : decode cX9_goStop 301 = .ok (.iadd, 1) := by decide +kernel
theorem dX9_goStop_302 : decode cX9_goStop 302 = .ok (.iastore, 1) := by decide +kernel
theorem dX9_goStop_303 : decode cX9_goStop 303 = .ok (.aload_n 0, 1) := by decide +kernel
theorem dX9_goStop_304 : decode cX9_goStop 304 = .ok (.getfield 27, 3) := by decide +kernel
theorem dX9_goStop_307 : decode cX9_goStop 307 = .ok (.iconst 3, 1) := by decide +kernel
theorem dX9_goStop_308 : decode cX9_goStop 308 = .ok (.dup2, 1) := by decide +kernel
theorem dX9_goStop_309 : decode cX9_goStop 309 = .ok (.iaload, 1) := by decide +kernel
theorem dX9_goStop_310 : decode cX9_goStop 310 = .ok (.iconst 1, 1) := by decide +kernel
theorem dX9_goStop_311 : decode cX9_goStop 311 = .ok (.iadd, 1) := by decide +kernel
theorem dX9_goStop_312 : decode cX9_goStop 312 = .ok (.iastore, 1) := by decide +kernel
theorem dX9_goStop_313 : decode cX9_goStop 313 = .ok (.return_, 1) := by decide +kernel
theorem dX9_goTill_0 : decode cX9_goTill 0 = .ok (.aload_n 0, 1) := by decide +kernel
theorem dX9_goTill_1 : decode cX9_goTill 1 = .ok (.getfield 27, 3) := by decide +kernel
theorem dX9_goTill_4 : decode cX9_goTill 4 = .ok (.iconst 3, 1) := by decide +kernel
theorem dX9_goTill_5 : decode cX9_goTill 5 = .ok (.iaload, 1) := by decide +kernel
theorem dX9_goTill_6 : decode cX9_goTill 6 = .ok (.iload_n 1, 1) := by decide +kernel
theorem dX9_goTill_7 : decode cX9_goTill 7 = .ok (.if_icmp .ge 10, 3) := by decide +kernel
theorem dX9_goTill_10 : decode cX9_goTill 10 = .ok (.aload_n 0, 1) := by decide +kernel
theorem dX9_goTill_11 : decode cX9_goTill 11 = .ok (.invokevirtual 114, 3) := by decide +kernel
theorem dX9_goTill_14 : decode cX9_goTill 14 = .ok (.goto (-14), 3) := by decide +kernel
theorem dX9_goTill_17 : decode cX9_goTill 17 = .ok (.return_, 1) := by decide +kernel
theorem dX9_keep_0 : decode cX9_keep 0 = .ok (.aload_n 0, 1) := by decide +kernel
theorem dX9_keep_1 : decode cX9_keep 1 = .ok (.getfield 7, 3) := by decide +kernel
theorem dX9_keep_4 : decode cX9_keep 4 = .ok (.iconst 2, 1) := by decide +kernel
theorem dX9_keep_5 : decode cX9_keep 5 = .ok (.iaload, 1) := by decide +kernel
theorem dX9_keep_6 : decode cX9_keep 6 = .ok (.bipush 8, 2) := by decide +kernel
theorem dX9_keep_8 : decode cX9_keep 8 = .ok (.if_icmp .ne 43, 3) := by decide +kernel
theorem dX9_keep_11 : decode cX9_keep 11 = .ok (.iconst 0, 1) := by decide +kernel
theorem dX9_keep_12 : decode cX9_keep 12 = .ok (.istore_n 1, 1) := by decide +kernel
theorem dX9_keep_13 : decode cX9_keep 13 = .ok (.iload_n 1, 1) := by decide +kernel
theorem dX9_keep_14 : decode cX9_keep 14 = .ok (.bipush 35, 2) := by decide +kernel
theorem dX9_keep_16 : decode cX9_keep 16 = .ok (.if_icmp .ge 27, 3) := by decide +kernel
theorem dX9_keep_19 : decode cX9_keep 19 = .ok (.aload_n 0, 1) := by decide +kernel
theorem dX9_keep_20 : decode cX9_keep 20 = .ok (.getfield 7, 3) := by decide +kernel
theorem dX9_keep_23 : decode cX9_keep 23 = .ok (.bipush 78, 2) := by decide +kernel
theorem dX9_keep_25 : decode cX9_keep 25 = .ok (.iload_n 1, 1) := by decide +kernel
theorem dX9_keep_26 : decode cX9_keep 26 = .ok (.iadd, 1) := by decide +kernel
theorem dX9_keep_27 : decode cX9_keep 27 = .ok (.aload_n 0, 1) := by decide +kernel
theorem dX9_keep_28 : decode cX9_keep 28 = .ok (.getfield 7, 3) := by decide +kernel
theorem dX9_keep_31 : decode cX9_keep 31 = .ok (.bipush 83, 2) := by decide +kernel
theorem dX9_keep_33 : decode cX9_keep 33 = .ok (.iload_n 1, 1) := by decide +kernel
theorem dX9_keep_34 : decode cX9_keep 34 = .ok (.iadd, 1) := by decide +kernel
theorem dX9_keep_35 : decode cX9_keep 35 = .ok (.iaload, 1) := by decide +kernel
theorem dX9_keep_36 : decode cX9_keep 36 = .ok (.iastore, 1) := by decide +kernel
theorem dX9_keep_37 : decode cX9_keep 37 = .ok (.iinc 1 1, 3) := by decide +kernel
theorem dX9_keep_40 : decode cX9_keep 40 = .ok (.goto (-27), 3) := by decide +kernel
theorem dX9_keep_43 : decode cX9_keep 43 = .ok (.aload_n 0, 1) := by decide +kernel
theorem dX9_keep_44 : decode cX9_keep 44 = .ok (.getfield 7, 3) := by decide +kernel
theorem dX9_keep_47 : decode cX9_keep 47 = .ok (.iconst 2, 1) := by decide +kernel
theorem dX9_keep_48 : decode cX9_keep 48 = .ok (.bipush 7, 2) := by decide +kernel
theorem dX9_keep_50 : decode cX9_keep 50 = .ok (.iastore, 1) := by decide +kernel
theorem dX9_keep_51 : decode cX9_keep 51 = .ok (.iconst 0, 1) := by decide +kernel
theorem dX9_keep_52 : decode cX9_keep 52 = .ok (.istore_n 1, 1) := by decide +kernel
theorem dX9_keep_53 : decode cX9_keep 53 = .ok (.iload_n 1, 1) := by decide +kernel
theorem dX9_keep_54 : decode cX9_keep 54 = .ok (.iconst 5, 1) := by decide +kernel
theorem dX9_keep_55 : decode cX9_keep 55 = .ok (.if_icmp .ge 35, 3) := by decide +kernel
theorem dX9_keep_58 : decode cX9_keep 58 = .ok (.aload_n 0, 1) := by decide +kernel
theorem dX9_keep_59 : decode cX9_keep 59 = .ok (.getfield 7, 3) := by decide +kernel
theorem dX9_keep_62 : decode cX9_keep 62 = .ok (.bipush 78, 2) := by decide +kernel
theorem dX9_keep_64 : decode cX9_keep 64 = .ok (.iconst 5, 1) := by decide +kernel
theorem dX9_keep_65 : decode cX9_keep 65 = .ok (.aload_n 0, 1) := by decide +kernel
theorem dX9_keep_66 : decode cX9_keep 66 = .ok (.getfield 7, 3) := by decide +kernel
theorem dX9_keep_69 : decode cX9_keep 69 = .ok (.iconst 2, 1) := by decide +kernel
theorem dX9_keep_70 : decode cX9_keep 70 = .ok (.iaload, 1) := by decide +kernel
theorem dX9_keep_71 : decode cX9_keep 71 = .ok (.imul, 1) := by decide +kernel
theorem dX9_keep_72 : decode cX9_keep 72 = .ok (.iadd, 1) := by decide +kernel
theorem dX9_keep_73 : decode cX9_keep 73 = .ok (.iload_n 1, 1) := by decide +kernel
theorem dX9_keep_74 : decode cX9_keep 74 = .ok (.iadd, 1) := by decide +kernel
theorem dX9_keep_75 : decode cX9_keep 75 = .ok (.aload_n 0, 1) := by decide +kernel
theorem dX9_keep_76 : decode cX9_keep 76 = .ok (.getfield 7, 3) := by decide +kernel
theorem dX9_keep_79 : decode cX9_keep 79 = .ok (.iconst 3, 1) := by decide +kernel
theorem dX9_keep_80 : decode cX9_keep 80 = .ok (.iload_n 1, 1) := by decide +kernel
theorem dX9_keep_81 : decode cX9_keep 81 = .ok (.iadd, 1) := by decide +kernel
theorem dX9_keep_82 : decode cX9_keep 82 = .ok (.iaload, 1) := by decide +kernel
theorem dX9_keep_83 : decode cX9_keep 83 = .ok (.iastore, 1) := by decide +kernel
theorem dX9_keep_84 : decode cX9_keep 84 = .ok (.iinc 1 1, 3) := by decide +kernel
theorem dX9_keep_87 : decode cX9_keep 87 = .ok (.goto (-34), 3) := by decide +kernel
theorem dX9_keep_90 : decode cX9_keep 90 = .ok (.aload_n 0, 1) := by decide +kernel
theorem dX9_keep_91 : decode cX9_keep 91 = .ok (.getfield 7, 3) := by decide +kernel
theorem dX9_keep_94 : decode cX9_keep 94 = .ok (.iconst 2, 1) := by decide +kernel
theorem dX9_keep_95 : decode cX9_keep 95 = .ok (.dup2, 1) := by decide +kernel
theorem dX9_keep_96 : decode cX9_keep 96 = .ok (.iaload, 1) := by decide +kernel
theorem dX9_keep_97 : decode cX9_keep 97 = .ok (.iconst 1, 1) := by decide +kernel
theorem dX9_keep_98 : decode cX9_keep 98 = .ok (.iadd, 1) := by decide +kernel
theorem dX9_keep_99 : decode cX9_keep 99 = .ok (.iastore, 1) := by decide +kernel
theorem dX9_keep_100 : decode cX9_keep 100 = .ok (.return_, 1) := by decide +kernel
theorem dX9_drive_0 : decode cX9_drive 0 = .ok (.iload_n 1, 1) := by decide +kernel
theorem dX9_drive_1 : decode cX9_drive 1 = .ok (.i2l, 1) := by decide +kernel
theorem dX9_drive_2 : decode cX9_drive 2 = .ok (.lconst 1, 1) := by decide +kernel
theorem dX9_drive_3 : decode cX9_drive 3 = .ok (.ldc2_w 117, 3) := by decide +kernel
theorem dX9_drive_6 : decode cX9_drive 6 = .ok (.invokestatic 56, 3) := by decide +kernel
theorem dX9_drive_9 : decode cX9_drive 9 = .ok (.ifCond .ne 10, 3) := by decide +kernel
theorem dX9_drive_12 : decode cX9_drive 12 = .ok (.aload_n 0, 1) := by decide +kernel
theorem dX9_drive_13 : decode cX9_drive 13 = .ok (.bipush (-2), 2) := by decide +kernel
theorem dX9_drive_15 : decode cX9_drive 15 = .ok (.invokevirtual 64, 3) := by decide +kernel
theorem dX9_drive_18 : decode cX9_drive 18 = .ok (.ireturn, 1) := by decide +kernel
theorem dX9_drive_19 : decode cX9_drive 19 = .ok (.aload_n 0, 1) := by decide +kernel
theorem dX9_drive_20 : decode cX9_drive 20 = .ok (.getfield 7, 3) := by decide +kernel
theorem dX9_drive_23 : decode cX9_drive 23 = .ok (.iconst 3, 1) := by decide +kernel
theorem dX9_drive_24 : decode cX9_drive 24 = .ok (.iaload, 1) := by decide +kernel
theorem dX9_drive_25 : decode cX9_drive 25 = .ok (.iload_n 1, 1) := by decide +kernel
theorem dX9_drive_26 : decode cX9_drive 26 = .ok (.iadd, 1) := by decide +kernel
theorem dX9_drive_27 : decode cX9_drive 27 = .ok (.bipush 10, 2) := by decide +kernel
theorem dX9_drive_29 : decode cX9_drive 29 = .ok (.if_icmp .le 8, 3) := by decide +kernel
theorem dX9_drive_32 : decode cX9_drive 32 = .ok (.aload_n 0, 1) := by decide +kernel
theorem dX9_drive_33 : decode cX9_drive 33 = .ok (.invokevirtual 119, 3) := by decide +kernel
theorem dX9_drive_36 : decode cX9_drive 36 = .ok (.ireturn, 1) := by decide +kernel
theorem dX9_drive_37 : decode cX9_drive 37 = .ok (.aload_n 0, 1) := by decide +kernel
theorem dX9_drive_38 : decode cX9_drive 38 = .ok (.getfield 7, 3) := by decide +kernel
theorem dX9_drive_41 : decode cX9_drive 41 = .ok (.bipush 7, 2) := by decide +kernel
theorem dX9_drive_43 : decode cX9_drive 43 = .ok (.iaload, 1) := by decide +kernel
theorem dX9_drive_44 : decode cX9_drive 44 = .ok (.istore_n 2, 1) := by decide +kernel
theorem dX9_drive_45 : decode cX9_drive 45 = .ok (.aload_n 0, 1) := by decide +kernel
theorem dX9_drive_46 : decode cX9_drive 46 = .ok (.invokevirtual 122, 3) := by decide +kernel
theorem dX9_drive_49 : decode cX9_drive 49 = .ok (.aload_n 0, 1) := by decide +kernel
theorem dX9_drive_50 : decode cX9_drive 50 = .ok (.invokevirtual 90, 3) := by decide +kernel
theorem dX9_drive_53 : decode cX9_drive 53 = .ok (.aload_n 0, 1) := by decide +kernel
theorem dX9_drive_54 : decode cX9_drive 54 = .ok (.aload_n 0, 1) := by decide +kernel
theorem dX9_drive_55 : decode cX9_drive 55 = .ok (.getfield 7, 3) := by decide +kernel
theorem dX9_drive_58 : decode cX9_drive 58 = .ok (.iconst 3, 1) := by decide +kernel
theorem dX9_drive_59 : decode cX9_drive 59 = .ok (.iaload, 1) := by decide +kernel
theorem dX9_drive_60 : decode cX9_drive 60 = .ok (.iload_n 1, 1) := by decide +kernel
theorem dX9_drive_61 : decode cX9_drive 61 = .ok (.iadd, 1) := by decide +kernel
theorem dX9_drive_62 : decode cX9_drive 62 = .ok (.invokevirtual 125, 3) := by decide +kernel
theorem dX9_drive_65 : decode cX9_drive 65 = .ok (.iconst 0, 1) := by decide +kernel
theorem dX9_drive_66 : decode cX9_drive 66 = .ok (.istore_n 3, 1) := by decide +kernel
theorem dX9_drive_67 : decode cX9_drive 67 = .ok (.iload_n 3, 1) := by decide +kernel
theorem dX9_drive_68 : decode cX9_drive 68 = .ok (.iconst 5, 1) := by decide +kernel
theorem dX9_drive_69 : decode cX9_drive 69 = .ok (.if_icmp .ge 25, 3) := by decide +kernel
theorem dX9_drive_72 : decode cX9_drive 72 = .ok (.aload_n 0, 1) := by decide +kernel
theorem dX9_drive_73 : decode cX9_drive 73 = .ok (.getfield 7, 3) := by decide +kernel
theorem dX9_drive_76 : decode cX9_drive 76 = .ok (.iconst 3, 1) := by decide +kernel
theorem dX9_drive_77 : decode cX9_drive 77 = .ok (.iload_n 3, 1) := by decide +kernel
theorem dX9_drive_78 : decode cX9_drive 78 = .ok (.iadd, 1) := by decide +kernel
theorem dX9_drive_79 : decode cX9_drive 79 = .ok (.aload_n 0, 1) := by decide +kernel
theorem dX9_drive_80 : decode cX9_drive 80 = .ok (.getfield 27, 3) := by decide +kernel
theorem dX9_drive_83 : decode cX9_drive 83 = .ok (.iconst 3, 1) := by decide +kernel
theorem dX9_drive_84 : decode cX9_drive 84 = .ok (.iload_n 3, 1) := by decide +kernel
theorem dX9_drive_85 : decode cX9_drive 85 = .ok (.iadd, 1) := by decide +kernel
theorem dX9_drive_86 : decode cX9_drive 86 = .ok (.iaload, 1) := by decide +kernel
theorem dX9_drive_87 : decode cX9_drive 87 = .ok (.iastore, 1) := by decide +kernel
theorem dX9_drive_88 : decode cX9_drive 88 = .ok (.iinc 3 1, 3) := by decide +kernel
theorem dX9_drive_91 : decode cX9_drive 91 = .ok (.goto (-24), 3) := by decide +kernel
theorem dX9_drive_94 : decode cX9_drive 94 = .ok (.aload_n 0, 1) := by decide +kernel
theorem dX9_drive_95 : decode cX9_drive 95 = .ok (.getfield 7, 3) := by decide +kernel
theorem dX9_drive_98 : decode cX9_drive 98 = .ok (.bipush 7, 2) := by decide +kernel
theorem dX9_drive_100 : decode cX9_drive 100 = .ok (.iaload, 1) := by decide +kernel
theorem dX9_drive_101 : decode cX9_drive 101 = .ok (.iload_n 2, 1) := by decide +kernel
theorem dX9_drive_102 : decode cX9_drive 102 = .ok (.isub, 1) := by decide +kernel
theorem dX9_drive_103 : decode cX9_drive 103 = .ok (.ireturn, 1) := by decide +kernel
theorem dX9_puts_0 : decode cX9_puts 0 = .ok (.aload_n 0, 1) := by decide +kernel
theorem dX9_puts_1 : decode cX9_puts 1 = .ok (.iload_n 1, 1) := by decide +kernel
theorem dX9_puts_2 : decode cX9_puts 2 = .ok (.invokevirtual 83, 3) := by decide +kernel
theorem dX9_puts_5 : decode cX9_puts 5 = .ok (.ifCond .ne 10, 3) := by decide +kernel
theorem dX9_puts_8 : decode cX9_puts 8 = .ok (.aload_n 0, 1) := by decide +kernel
theorem dX9_puts_9 : decode cX9_puts 9 = .ok (.bipush (-2), 2) := by decide +kernel
theorem dX9_puts_11 : decode cX9_puts 11 = .ok (.invokevirtual 64, 3) := by decide +kernel
theorem dX9_puts_14 : decode cX9_puts 14 = .ok (.ireturn, 1) := by decide +kernel
theorem dX9_puts_15 : decode cX9_puts 15 = .ok (.aload_n 0, 1) := by decide +kernel
theorem dX9_puts_16 : decode cX9_puts 16 = .ok (.getfield 7, 3) := by decide +kernel
theorem dX9_puts_19 : decode cX9_puts 19 = .ok (.iconst 4, 1) := by decide +kernel
theorem dX9_puts_20 : decode cX9_puts 20 = .ok (.iaload, 1) := by decide +kernel
theorem dX9_puts_21 : decode cX9_puts 21 = .ok (.iload_n 1, 1) := by decide +kernel
theorem dX9_puts_22 : decode cX9_puts 22 = .ok (.invokestatic 97, 3) := by decide +kernel
theorem dX9_puts_25 : decode cX9_puts 25 = .ok (.ifCond .ne 8, 3) := by decide +kernel
theorem dX9_puts_28 : decode cX9_puts 28 = .ok (.aload_n 0, 1) := by decide +kernel
theorem dX9_puts_29 : decode cX9_puts 29 = .ok (.invokevirtual 119, 3) := by decide +kernel
theorem dX9_puts_32 : decode cX9_puts 32 = .ok (.ireturn, 1) := by decide +kernel
theorem dX9_puts_33 : decode cX9_puts 33 = .ok (.aload_n 0, 1) := by decide +kernel
theorem dX9_puts_34 : decode cX9_puts 34 = .ok (.invokevirtual 122, 3) := by decide +kernel
theorem dX9_puts_37 : decode cX9_puts 37 = .ok (.aload_n 0, 1) := by decide +kernel
theorem dX9_puts_38 : decode cX9_puts 38 = .ok (.getfield 7, 3) := by decide +kernel
theorem dX9_puts_41 : decode cX9_puts 41 = .ok (.iconst 4, 1) := by decide +kernel
theorem dX9_puts_42 : decode cX9_puts 42 = .ok (.dup2, 1) := by decide +kernel
theorem dX9_puts_43 : decode cX9_puts 43 = .ok (.iaload, 1) := by decide +kernel
theorem dX9_puts_44 : decode cX9_puts 44 = .ok (.iconst 1, 1) := by decide +kernel
theorem dX9_puts_45 : decode cX9_puts 45 = .ok (.iload_n 1, 1) := by decide +kernel
theorem dX9_puts_46 : decode cX9_puts 46 = .ok (.ishl, 1) := by decide +kernel
theorem dX9_puts_47 : decode cX9_puts 47 = .ok (.iconst (-1), 1) := by decide +kernel
theorem dX9_puts_48 : decode cX9_puts 48 = .ok (.ixor, 1) := by decide +kernel
theorem dX9_puts_49 : decode cX9_puts 49 = .ok (.iand, 1) := by decide +kernel
theorem dX9_puts_50 : decode cX9_puts 50 = .ok (.iastore, 1) := by decide +kernel
theorem dX9_puts_51 : decode cX9_puts 51 = .ok (.aload_n 0, 1) := by decide +kernel
theorem dX9_puts_52 : decode cX9_puts 52 = .ok (.getfield 7, 3) := by decide +kernel
theorem dX9_puts_55 : decode cX9_puts 55 = .ok (.iconst 4, 1) := by decide +kernel
theorem dX9_puts_56 : decode cX9_puts 56 = .ok (.iaload, 1) := by decide +kernel
theorem dX9_puts_57 : decode cX9_puts 57 = .ok (.invokestatic 105, 3) := by decide +kernel
theorem dX9_puts_60 : decode cX9_puts 60 = .ok (.ireturn, 1) := by decide +kernel
theorem dX9_undo_0 : decode cX9_undo 0 = .ok (.aload_n 0, 1) := by decide +kernel
theorem dX9_undo_1 : decode cX9_undo 1 = .ok (.getfield 7, 3) := by decide +kernel
theorem dX9_undo_4 : decode cX9_undo 4 = .ok (.iconst 2, 1) := by decide +kernel
theorem dX9_undo_5 : decode cX9_undo 5 = .ok (.iaload, 1) := by decide +kernel
theorem dX9_undo_6 : decode cX9_undo 6 = .ok (.ifCond .ne 8, 3) := by decide +kernel
theorem dX9_undo_9 : decode cX9_undo 9 = .ok (.aload_n 0, 1) := by decide +kernel
theorem dX9_undo_10 : decode cX9_undo 10 = .ok (.invokevirtual 119, 3) := by decide +kernel
theorem dX9_undo_13 : decode cX9_undo 13 = .ok (.ireturn, 1) := by decide +kernel
theorem dX9_undo_14 : decode cX9_undo 14 = .ok (.aload_n 0, 1) := by decide +kernel
theorem dX9_undo_15 : decode cX9_undo 15 = .ok (.getfield 7, 3) := by decide +kernel
theorem dX9_undo_18 : decode cX9_undo 18 = .ok (.iconst 2, 1) := by decide +kernel
theorem dX9_undo_19 : decode cX9_undo 19 = .ok (.dup2, 1) := by decide +kernel
theorem dX9_undo_20 : decode cX9_undo 20 = .ok (.iaload, 1) := by decide +kernel
theorem dX9_undo_21 : decode cX9_undo 21 = .ok (.iconst 1, 1) := by decide +kernel
theorem dX9_undo_22 : decode cX9_undo 22 = .ok (.isub, 1) := by decide +kernel
theorem dX9_undo_23 : decode cX9_undo 23 = .ok (.iastore, 1) := by decide +kernel
theorem dX9_undo_24 : decode cX9_undo 24 = .ok (.iconst 0, 1) := by decide +kernel
theorem dX9_undo_25 : decode cX9_undo 25 = .ok (.istore_n 1, 1) := by decide +kernel
theorem dX9_undo_26 : decode cX9_undo 26 = .ok (.iload_n 1, 1) := by decide +kernel
theorem dX9_undo_27 : decode cX9_undo 27 = .ok (.iconst 5, 1) := by decide +kernel
theorem dX9_undo_28 : decode cX9_undo 28 = .ok (.if_icmp .ge 35, 3) := by decide +kernel
theorem dX9_undo_31 : decode cX9_undo 31 = .ok (.aload_n 0, 1) := by decide +kernel
theorem dX9_undo_32 : decode cX9_undo 32 = .ok (.getfield 7, 3) := by decide +kernel
theorem dX9_undo_35 : decode cX9_undo 35 = .ok (.iconst 3, 1) := by decide +kernel
theorem dX9_undo_36 : decode cX9_undo 36 = .ok (.iload_n 1, 1) := by decide +kernel
theorem dX9_undo_37 : decode cX9_undo 37 = .ok (.iadd, 1) := by decide +kernel
theorem dX9_undo_38 : decode cX9_undo 38 = .ok (.aload_n 0, 1) := by decide +kernel
theorem dX9_undo_39 : decode cX9_undo 39 = .ok (.getfield 7, 3) := by decide +kernel
theorem dX9_undo_42 : decode cX9_undo 42 = .ok (.bipush 78, 2) := by decide +kernel
theorem dX9_undo_44 : decode cX9_undo 44 = .ok (.iconst 5, 1) := by decide +kernel
theorem dX9_undo_45 : decode cX9_undo 45 = .ok (.aload_n 0, 1) := by decide +kernel
theorem dX9_undo_46 : decode cX9_undo 46 = .ok (.getfield 7, 3) := by decide +kernel
theorem dX9_undo_49 : decode cX9_undo 49 = .ok (.iconst 2, 1) := by decide +kernel
theorem dX9_undo_50 : decode cX9_undo 50 = .ok (.iaload, 1) := by decide +kernel
theorem dX9_undo_51 : decode cX9_undo 51 = .ok (.imul, 1) := by decide +kernel
theorem dX9_undo_52 : decode cX9_undo 52 = .ok (.iadd, 1) := by decide +kernel
theorem dX9_undo_53 : decode cX9_undo 53 = .ok (.iload_n 1, 1) := by decide +kernel
theorem dX9_undo_54 : decode cX9_undo 54 = .ok (.iadd, 1) := by decide +kernel
theorem dX9_undo_55 : decode cX9_undo 55 = .ok (.iaload, 1) := by decide +kernel
theorem dX9_undo_56 : decode cX9_undo 56 = .ok (.iastore, 1) := by decide +kernel
theorem dX9_undo_57 : decode cX9_undo 57 = .ok (.iinc 1 1, 3) := by decide +kernel
theorem dX9_undo_60 : decode cX9_undo 60 = .ok (.goto (-34), 3) := by decide +kernel
theorem dX9_undo_63 : decode cX9_undo 63 = .ok (.aload_n 0, 1) := by decide +kernel
theorem dX9_undo_64 : decode cX9_undo 64 = .ok (.getfield 7, 3) := by decide +kernel
theorem dX9_undo_67 : decode cX9_undo 67 = .ok (.iconst 3, 1) := by decide +kernel
theorem dX9_undo_68 : decode cX9_undo 68 = .ok (.iaload, 1) := by decide +kernel
theorem dX9_undo_69 : decode cX9_undo 69 = .ok (.ireturn, 1) := by decide +kernel
theorem dX9_of_0 : decode cX9_of 0 = .ok (.aload_n 0, 1) := by decide +kernel
theorem dX9_of_1 : decode cX9_of 1 = .ok (.iload_n 1, 1) := by decide +kernel
theorem dX9_of_2 : decode cX9_of 2 = .ok (.invokevirtual 83, 3) := by decide +kernel
theorem dX9_of_5 : decode cX9_of 5 = .ok (.ifCond .eq 15, 3) := by decide +kernel
theorem dX9_of_8 : decode cX9_of 8 = .ok (.iload_n 2, 1) := by decide +kernel
theorem dX9_of_9 : decode cX9_of 9 = .ok (.i2l, 1) := by decide +kernel
theorem dX9_of_10 : decode cX9_of 10 = .ok (.lconst 0, 1) := by decide +kernel
theorem dX9_of_11 : decode cX9_of 11 = .ok (.ldc2_w 72, 3) := by decide +kernel
theorem dX9_of_14 : decode cX9_of 14 = .ok (.invokestatic 56, 3) := by decide +kernel
theorem dX9_of_17 : decode cX9_of 17 = .ok (.ifCond .ne 10, 3) := by decide +kernel
theorem dX9_of_20 : decode cX9_of 20 = .ok (.aload_n 0, 1) := by decide +kernel
theorem dX9_of_21 : decode cX9_of 21 = .ok (.bipush (-2), 2) := by decide +kernel
theorem dX9_of_23 : decode cX9_of 23 = .ok (.invokevirtual 64, 3) := by decide +kernel
theorem dX9_of_26 : decode cX9_of 26 = .ok (.ireturn, 1) := by decide +kernel
theorem dX9_of_27 : decode cX9_of 27 = .ok (.iload_n 2, 1) := by decide +kernel
theorem dX9_of_28 : decode cX9_of 28 = .ok (.tableswitch 87 0 4 #[36, 46, 56, 66, 76], 36) := by decide +kernel
theorem dX9_of_64 : decode cX9_of 64 = .ok (.aload_n 0, 1) := by decide +kernel
theorem dX9_of_65 : decode cX9_of 65 = .ok (.getfield 7, 3) := by decide +kernel
theorem dX9_of_68 : decode cX9_of 68 = .ok (.bipush 19, 2) := by decide +kernel
theorem dX9_of_70 : decode cX9_of 70 = .ok (.iload_n 1, 1) := by decide +kernel
theorem dX9_of_71 : decode cX9_of 71 = .ok (.iadd, 1) := by decide +kernel
theorem dX9_of_72 : decode cX9_of 72 = .ok (.iaload, 1) := by decide +kernel
theorem dX9_of_73 : decode cX9_of 73 = .ok (.ireturn, 1) := by decide +kernel
theorem dX9_of_74 : decode cX9_of 74 = .ok (.aload_n 0, 1) := by decide +kernel
theorem dX9_of_75 : decode cX9_of 75 = .ok (.getfield 7, 3) := by decide +kernel
theorem dX9_of_78 : decode cX9_of 78 = .ok (.bipush 26, 2) := by decide +kernel
theorem dX9_of_80 : decode cX9_of 80 = .ok (.iload_n 1, 1) := by decide +kernel
theorem dX9_of_81 : decode cX9_of 81 = .ok (.iadd, 1) := by decide +kernel
theorem dX9_of_82 : decode cX9_of 82 = .ok (.iaload, 1) := by decide +kernel
theorem dX9_of_83 : decode cX9_of 83 = .ok (.ireturn, 1) := by decide +kernel
theorem dX9_of_84 : decode cX9_of 84 = .ok (.aload_n 0, 1) := by decide +kernel
theorem dX9_of_85 : decode cX9_of 85 = .ok (.getfield 7, 3) := by decide +kernel
theorem dX9_of_88 : decode cX9_of 88 = .ok (.bipush 33, 2) := by decide +kernel
theorem dX9_of_90 : decode cX9_of 90 = .ok (.iload_n 1, 1) := by decide +kernel
theorem dX9_of_91 : decode cX9_of 91 = .ok (.iadd, 1) := by decide +kernel
theorem dX9_of_92 : decode cX9_of 92 = .ok (.iaload, 1) := by decide +kernel
theorem dX9_of_93 : decode cX9_of 93 = .ok (.ireturn, 1) := by decide +kernel
theorem dX9_of_94 : decode cX9_of 94 = .ok (.aload_n 0, 1) := by decide +kernel
theorem dX9_of_95 : decode cX9_of 95 = .ok (.getfield 7, 3) := by decide +kernel
theorem dX9_of_98 : decode cX9_of 98 = .ok (.bipush 40, 2) := by decide +kernel
theorem dX9_of_100 : decode cX9_of 100 = .ok (.iload_n 1, 1) := by decide +kernel
theorem dX9_of_101 : decode cX9_of 101 = .ok (.iadd, 1) := by decide +kernel
theorem dX9_of_102 : decode cX9_of 102 = .ok (.iaload, 1) := by decide +kernel
theorem dX9_of_103 : decode cX9_of 103 = .ok (.ireturn, 1) := by decide +kernel
theorem dX9_of_104 : decode cX9_of 104 = .ok (.aload_n 0, 1) := by decide +kernel
theorem dX9_of_105 : decode cX9_of 105 = .ok (.getfield 7, 3) := by decide +kernel
theorem dX9_of_108 : decode cX9_of 108 = .ok (.iconst 4, 1) := by decide +kernel
theorem dX9_of_109 : decode cX9_of 109 = .ok (.iaload, 1) := by decide +kernel
theorem dX9_of_110 : decode cX9_of 110 = .ok (.iload_n 1, 1) := by decide +kernel
theorem dX9_of_111 : decode cX9_of 111 = .ok (.ishr, 1) := by decide +kernel
theorem dX9_of_112 : decode cX9_of 112 = .ok (.iconst 1, 1) := by decide +kernel
theorem dX9_of_113 : decode cX9_of 113 = .ok (.iand, 1) := by decide +kernel
theorem dX9_of_114 : decode cX9_of 114 = .ok (.ireturn, 1) := by decide +kernel
theorem dX9_of_115 : decode cX9_of 115 = .ok (.aload_n 0, 1) := by decide +kernel
theorem dX9_of_116 : decode cX9_of 116 = .ok (.getfield 7, 3) := by decide +kernel
theorem dX9_of_119 : decode cX9_of 119 = .ok (.bipush 47, 2) := by decide +kernel
theorem dX9_of_121 : decode cX9_of 121 = .ok (.iload_n 1, 1) := by decide +kernel
theorem dX9_of_122 : decode cX9_of 122 = .ok (.iadd, 1) := by decide +kernel
theorem dX9_of_123 : decode cX9_of 123 = .ok (.iaload, 1) := by decide +kernel
theorem dX9_of_124 : decode cX9_of 124 = .ok (.ireturn, 1) := by decide +kernel
theorem dX9_sways_0 : decode cX9_sways 0 = .ok (.aload_n 0, 1) := by decide +kernel
theorem dX9_sways_1 : decode cX9_sways 1 = .ok (.iload_n 1, 1) := by decide +kernel
theorem dX9_sways_2 : decode cX9_sways 2 = .ok (.invokevirtual 83, 3) := by decide +kernel
theorem dX9_sways_5 : decode cX9_sways 5 = .ok (.ifCond .eq 20, 3) := by decide +kernel
theorem dX9_sways_8 : decode cX9_sways 8 = .ok (.iload_n 2, 1) := by decide +kernel
theorem dX9_sways_9 : decode cX9_sways 9 = .ok (.invokestatic 68, 3) := by decide +kernel
theorem dX9_sways_12 : decode cX9_sways 12 = .ok (.ifCond .eq 13, 3) := by decide +kernel
theorem dX9_sways_15 : decode cX9_sways 15 = .ok (.iload_n 3, 1) := by decide +kernel
theorem dX9_sways_16 : decode cX9_sways 16 = .ok (.i2l, 1) := by decide +kernel
theorem dX9_sways_17 : decode cX9_sways 17 = .ok (.lconst 0, 1) := by decide +kernel
theorem dX9_sways_18 : decode cX9_sways 18 = .ok (.lconst 1, 1) := by decide +kernel
theorem dX9_sways_19 : decode cX9_sways 19 = .ok (.invokestatic 56, 3) := by decide +kernel
theorem dX9_sways_22 : decode cX9_sways 22 = .ok (.ifCond .ne 10, 3) := by decide +kernel
theorem dX9_sways_25 : decode cX9_sways 25 = .ok (.aload_n 0, 1) := by decide +kernel
theorem dX9_sways_26 : decode cX9_sways 26 = .ok (.bipush (-2), 2) := by decide +kernel
theorem dX9_sways_28 : decode cX9_sways 28 = .ok (.invokevirtual 64, 3) := by decide +kernel
theorem dX9_sways_31 : decode cX9_sways 31 = .ok (.ireturn, 1) := by decide +kernel
theorem dX9_sways_32 : decode cX9_sways 32 = .ok (.iload_n 3, 1) := by decide +kernel
theorem dX9_sways_33 : decode cX9_sways 33 = .ok (.ifCond .ne 28, 3) := by decide +kernel
theorem dX9_sways_36 : decode cX9_sways 36 = .ok (.aload_n 0, 1) := by decide +kernel
theorem dX9_sways_37 : decode cX9_sways 37 = .ok (.getfield 7, 3) := by decide +kernel
theorem dX9_sways_40 : decode cX9_sways 40 = .ok (.bipush 19, 2) := by decide +kernel
theorem dX9_sways_42 : decode cX9_sways 42 = .ok (.iload_n 1, 1) := by decide +kernel
theorem dX9_sways_43 : decode cX9_sways 43 = .ok (.iadd, 1) := by decide +kernel
theorem dX9_sways_44 : decode cX9_sways 44 = .ok (.iaload, 1) := by decide +kernel
theorem dX9_sways_45 : decode cX9_sways 45 = .ok (.aload_n 0, 1) := by decide +kernel
theorem dX9_sways_46 : decode cX9_sways 46 = .ok (.getfield 7, 3) := by decide +kernel
theorem dX9_sways_49 : decode cX9_sways 49 = .ok (.bipush 26, 2) := by decide +kernel
theorem dX9_sways_51 : decode cX9_sways 51 = .ok (.iload_n 1, 1) := by decide +kernel
theorem dX9_sways_52 : decode cX9_sways 52 = .ok (.iadd, 1) := by decide +kernel
theorem dX9_sways_53 : decode cX9_sways 53 = .ok (.iaload, 1) := by decide +kernel
theorem dX9_sways_54 : decode cX9_sways 54 = .ok (.iload_n 2, 1) := by decide +kernel
theorem dX9_sways_55 : decode cX9_sways 55 = .ok (.invokestatic 93, 3) := by decide +kernel
theorem dX9_sways_58 : decode cX9_sways 58 = .ok (.goto 16, 3) := by decide +kernel
theorem dX9_sways_61 : decode cX9_sways 61 = .ok (.aload_n 0, 1) := by decide +kernel
theorem dX9_sways_62 : decode cX9_sways 62 = .ok (.getfield 7, 3) := by decide +kernel
theorem dX9_sways_65 : decode cX9_sways 65 = .ok (.bipush 19, 2) := by decide +kernel
theorem dX9_sways_67 : decode cX9_sways 67 = .ok (.iload_n 1, 1) := by decide +kernel
theorem dX9_sways_68 : decode cX9_sways 68 = .ok (.iadd, 1) := by decide +kernel
theorem dX9_sways_69 : decode cX9_sways 69 = .ok (.iaload, 1) := by decide +kernel
theorem dX9_sways_70 : decode cX9_sways 70 = .ok (.iload_n 2, 1) := by decide +kernel
theorem dX9_sways_71 : decode cX9_sways 71 = .ok (.invokestatic 108, 3) := by decide +kernel
theorem dX9_sways_74 : decode cX9_sways 74 = .ok (.ireturn, 1) := by decide +kernel
theorem dX9_now_0 : decode cX9_now 0 = .ok (.iload_n 1, 1) := by decide +kernel
theorem dX9_now_1 : decode cX9_now 1 = .ok (.i2l, 1) := by decide +kernel
theorem dX9_now_2 : decode cX9_now 2 = .ok (.lconst 0, 1) := by decide +kernel
theorem dX9_now_3 : decode cX9_now 3 = .ok (.ldc2_w 129, 3) := by decide +kernel
theorem dX9_now_6 : decode cX9_now 6 = .ok (.invokestatic 56, 3) := by decide +kernel
theorem dX9_now_9 : decode cX9_now 9 = .ok (.ifCond .eq 14, 3) := by decide +kernel
theorem dX9_now_12 : decode cX9_now 12 = .ok (.aload_n 0, 1) := by decide +kernel
theorem dX9_now_13 : decode cX9_now 13 = .ok (.getfield 7, 3) := by decide +kernel
theorem dX9_now_16 : decode cX9_now 16 = .ok (.iconst 3, 1) := by decide +kernel
theorem dX9_now_17 : decode cX9_now 17 = .ok (.iload_n 1, 1) := by decide +kernel
theorem dX9_now_18 : decode cX9_now 18 = .ok (.iadd, 1) := by decide +kernel
theorem dX9_now_19 : decode cX9_now 19 = .ok (.iaload, 1) := by decide +kernel
theorem dX9_now_20 : decode cX9_now 20 = .ok (.goto 9, 3) := by decide +kernel
theorem dX9_now_23 : decode cX9_now 23 = .ok (.aload_n 0, 1) := by decide +kernel
theorem dX9_now_24 : decode cX9_now 24 = .ok (.bipush (-2), 2) := by decide +kernel
theorem dX9_now_26 : decode cX9_now 26 = .ok (.invokevirtual 64, 3) := by decide +kernel
theorem dX9_now_29 : decode cX9_now 29 = .ok (.ireturn, 1) := by decide +kernel
theorem dX9_then_0 : decode cX9_then 0 = .ok (.iload_n 1, 1) := by decide +kernel
theorem dX9_then_1 : decode cX9_then 1 = .ok (.i2l, 1) := by decide +kernel
theorem dX9_then_2 : decode cX9_then 2 = .ok (.aload_n 0, 1) := by decide +kernel
theorem dX9_then_3 : decode cX9_then 3 = .ok (.getfield 7, 3) := by decide +kernel
theorem dX9_then_6 : decode cX9_then 6 = .ok (.iconst 3, 1) := by decide +kernel
theorem dX9_then_7 : decode cX9_then 7 = .ok (.iaload, 1) := by decide +kernel
theorem dX9_then_8 : decode cX9_then 8 = .ok (.i2l, 1) := by decide +kernel
theorem dX9_then_9 : decode cX9_then 9 = .ok (.ldc2_w 60, 3) := by decide +kernel
theorem dX9_then_12 : decode cX9_then 12 = .ok (.invokestatic 56, 3) := by decide +kernel
theorem dX9_then_15 : decode cX9_then 15 = .ok (.ifCond .eq 15, 3) := by decide +kernel
theorem dX9_then_18 : decode cX9_then 18 = .ok (.iload_n 2, 1) := by decide +kernel
theorem dX9_then_19 : decode cX9_then 19 = .ok (.i2l, 1) := by decide +kernel
theorem dX9_then_20 : decode cX9_then 20 = .ok (.lconst 0, 1) := by decide +kernel
theorem dX9_then_21 : decode cX9_then 21 = .ok (.ldc2_w 131, 3) := by decide +kernel
theorem dX9_then_24 : decode cX9_then 24 = .ok (.invokestatic 56, 3) := by decide +kernel
theorem dX9_then_27 : decode cX9_then 27 = .ok (.ifCond .ne 10, 3) := by decide +kernel
theorem dX9_then_30 : decode cX9_then 30 = .ok (.aload_n 0, 1) := by decide +kernel
theorem dX9_then_31 : decode cX9_then 31 = .ok (.bipush (-2), 2) := by decide +kernel
theorem dX9_then_33 : decode cX9_then 33 = .ok (.invokevirtual 64, 3) := by decide +kernel
theorem dX9_then_36 : decode cX9_then 36 = .ok (.ireturn, 1) := by decide +kernel
theorem dX9_then_37 : decode cX9_then 37 = .ok (.aload_n 0, 1) := by decide +kernel
theorem dX9_then_38 : decode cX9_then 38 = .ok (.invokevirtual 90, 3) := by decide +kernel
theorem dX9_then_41 : decode cX9_then 41 = .ok (.aload_n 0, 1) := by decide +kernel
theorem dX9_then_42 : decode cX9_then 42 = .ok (.iload_n 1, 1) := by decide +kernel
theorem dX9_then_43 : decode cX9_then 43 = .ok (.iconst 1, 1) := by decide +kernel
theorem dX9_then_44 : decode cX9_then 44 = .ok (.iadd, 1) := by decide +kernel
theorem dX9_then_45 : decode cX9_then 45 = .ok (.invokevirtual 125, 3) := by decide +kernel
theorem dX9_then_48 : decode cX9_then 48 = .ok (.iload_n 2, 1) := by decide +kernel
theorem dX9_then_49 : decode cX9_then 49 = .ok (.ifCond .ne 12, 3) := by decide +kernel
theorem dX9_then_52 : decode cX9_then 52 = .ok (.aload_n 0, 1) := by decide +kernel
theorem dX9_then_53 : decode cX9_then 53 = .ok (.getfield 27, 3) := by decide +kernel
theorem dX9_then_56 : decode cX9_then 56 = .ok (.iconst 4, 1) := by decide +kernel
theorem dX9_then_57 : decode cX9_then 57 = .ok (.iaload, 1) := by decide +kernel
theorem dX9_then_58 : decode cX9_then 58 = .ok (.goto 29, 3) := by decide +kernel
theorem dX9_then_61 : decode cX9_then 61 = .ok (.iload_n 2, 1) := by decide +kernel
theorem dX9_then_62 : decode cX9_then 62 = .ok (.iconst 1, 1) := by decide +kernel
theorem dX9_then_63 : decode cX9_then 63 = .ok (.if_icmp .ne 17, 3) := by decide +kernel
theorem dX9_then_66 : decode cX9_then 66 = .ok (.aload_n 0, 1) := by decide +kernel
theorem dX9_then_67 : decode cX9_then 67 = .ok (.aload_n 0, 1) := by decide +kernel
theorem dX9_then_68 : decode cX9_then 68 = .ok (.getfield 27, 3) := by decide +kernel
theorem dX9_then_71 : decode cX9_then 71 = .ok (.iconst 4, 1) := by decide +kernel
theorem dX9_then_72 : decode cX9_then 72 = .ok (.iaload, 1) := by decide +kernel
theorem dX9_then_73 : decode cX9_then 73 = .ok (.iload_n 1, 1) := by decide +kernel
theorem dX9_then_74 : decode cX9_then 74 = .ok (.invokevirtual 111, 3) := by decide +kernel
theorem dX9_then_77 : decode cX9_then 77 = .ok (.goto 10, 3) := by decide +kernel
theorem dX9_then_80 : decode cX9_then 80 = .ok (.aload_n 0, 1) := by decide +kernel
theorem dX9_then_81 : decode cX9_then 81 = .ok (.getfield 27, 3) := by decide +kernel
theorem dX9_then_84 : decode cX9_then 84 = .ok (.bipush 7, 2) := by decide +kernel
theorem dX9_then_86 : decode cX9_then 86 = .ok (.iaload, 1) := by decide +kernel
theorem dX9_then_87 : decode cX9_then 87 = .ok (.ireturn, 1) := by decide +kernel
theorem dX9_end_0 : decode cX9_end 0 = .ok (.iload_n 1, 1) := by decide +kernel
theorem dX9_end_1 : decode cX9_end 1 = .ok (.i2l, 1) := by decide +kernel
theorem dX9_end_2 : decode cX9_end 2 = .ok (.lconst 0, 1) := by decide +kernel
theorem dX9_end_3 : decode cX9_end 3 = .ok (.ldc2_w 131, 3) := by decide +kernel
theorem dX9_end_6 : decode cX9_end 6 = .ok (.invokestatic 56, 3) := by decide +kernel
theorem dX9_end_9 : decode cX9_end 9 = .ok (.ifCond .ne 10, 3) := by decide +kernel
theorem dX9_end_12 : decode cX9_end 12 = .ok (.aload_n 0, 1) := by decide +kernel
theorem dX9_end_13 : decode cX9_end 13 = .ok (.bipush (-2), 2) := by decide +kernel
theorem dX9_end_15 : decode cX9_end 15 = .ok (.invokevirtual 64, 3) := by decide +kernel
theorem dX9_end_18 : decode cX9_end 18 = .ok (.ireturn, 1) := by decide +kernel
theorem dX9_end_19 : decode cX9_end 19 = .ok (.aload_n 0, 1) := by decide +kernel
theorem dX9_end_20 : decode cX9_end 20 = .ok (.invokevirtual 90, 3) := by decide +kernel
theorem dX9_end_23 : decode cX9_end 23 = .ok (.aload_n 0, 1) := by decide +kernel
theorem dX9_end_24 : decode cX9_end 24 = .ok (.bipush 10, 2) := by decide +kernel
theorem dX9_end_26 : decode cX9_end 26 = .ok (.invokevirtual 125, 3) := by decide +kernel
theorem dX9_end_29 : decode cX9_end 29 = .ok (.aload_n 0, 1) := by decide +kernel
theorem dX9_end_30 : decode cX9_end 30 = .ok (.getfield 27, 3) := by decide +kernel
theorem dX9_end_33 : decode cX9_end 33 = .ok (.iload_n 1, 1) := by decide +kernel
theorem dX9_end_34 : decode cX9_end 34 = .ok (.ifCond .ne 7, 3) := by decide +kernel
theorem dX9_end_37 : decode cX9_end 37 = .ok (.iconst 5, 1) := by decide +kernel
theorem dX9_end_38 : decode cX9_end 38 = .ok (.goto 15, 3) := by decide +kernel
theorem dX9_end_41 : decode cX9_end 41 = .ok (.iload_n 1, 1) := by decide +kernel
theorem dX9_end_42 : decode cX9_end 42 = .ok (.iconst 1, 1) := by decide +kernel
theorem dX9_end_43 : decode cX9_end 43 = .ok (.if_icmp .ne 8, 3) := by decide +kernel
theorem dX9_end_46 : decode cX9_end 46 = .ok (.bipush 6, 2) := by decide +kernel
theorem dX9_end_48 : decode cX9_end 48 = .ok (.goto 5, 3) := by decide +kernel
theorem dX9_end_51 : decode cX9_end 51 = .ok (.bipush 7, 2) := by decide +kernel
theorem dX9_end_53 : decode cX9_end 53 = .ok (.iaload, 1) := by decide +kernel
theorem dX9_end_54 : decode cX9_end 54 = .ok (.ireturn, 1) := by decide +kernel
theorem dX9_layDecks_0 : decode cX9_layDecks 0 = .ok (.iload_n 1, 1) := by decide +kernel
theorem dX9_layDecks_1 : decode cX9_layDecks 1 = .ok (.istore_n 3, 1) := by decide +kernel
theorem dX9_layDecks_2 : decode cX9_layDecks 2 = .ok (.iconst 1, 1) := by decide +kernel
theorem dX9_layDecks_3 : decode cX9_layDecks 3 = .ok (.istore 4, 2) := by decide +kernel
theorem dX9_layDecks_5 : decode cX9_layDecks 5 = .ok (.aload_n 0, 1) := by decide +kernel
theorem dX9_layDecks_6 : decode cX9_layDecks 6 = .ok (.invokevirtual 52, 3) := by decide +kernel
theorem dX9_layDecks_9 : decode cX9_layDecks 9 = .ok (.iconst 1, 1) := by decide +kernel
theorem dX9_layDecks_10 : decode cX9_layDecks 10 = .ok (.isub, 1) := by decide +kernel
theorem dX9_layDecks_11 : decode cX9_layDecks 11 = .ok (.istore 5, 2) := by decide +kernel
theorem dX9_layDecks_13 : decode cX9_layDecks 13 = .ok (.iload 5, 2) := by decide +kernel
theorem dX9_layDecks_15 : decode cX9_layDecks 15 = .ok (.ifCond .lt 91, 3) := by decide +kernel
theorem dX9_layDecks_18 : decode cX9_layDecks 18 = .ok (.aload_n 0, 1) := by decide +kernel
theorem dX9_layDecks_19 : decode cX9_layDecks 19 = .ok (.getfield 30, 3) := by decide +kernel
theorem dX9_layDecks_22 : decode cX9_layDecks 22 = .ok (.iload 5, 2) := by decide +kernel
theorem dX9_layDecks_24 : decode cX9_layDecks 24 = .ok (.iload_n 3, 1) := by decide +kernel
theorem dX9_layDecks_25 : decode cX9_layDecks 25 = .ok (.iload_n 2, 1) := by decide +kernel
theorem dX9_layDecks_26 : decode cX9_layDecks 26 = .ok (.irem, 1) := by decide +kernel
theorem dX9_layDecks_27 : decode cX9_layDecks 27 = .ok (.iastore, 1) := by decide +kernel
theorem dX9_layDecks_28 : decode cX9_layDecks 28 = .ok (.iload_n 3, 1) := by decide +kernel
theorem dX9_layDecks_29 : decode cX9_layDecks 29 = .ok (.iload_n 2, 1) := by decide +kernel
theorem dX9_layDecks_30 : decode cX9_layDecks 30 = .ok (.idiv, 1) := by decide +kernel
theorem dX9_layDecks_31 : decode cX9_layDecks 31 = .ok (.istore_n 3, 1) := by decide +kernel
theorem dX9_layDecks_32 : decode cX9_layDecks 32 = .ok (.iload 5, 2) := by decide +kernel
theorem dX9_layDecks_34 : decode cX9_layDecks 34 = .ok (.iconst 1, 1) := by decide +kernel
theorem dX9_layDecks_35 : decode cX9_layDecks 35 = .ok (.iadd, 1) := by decide +kernel
theorem dX9_layDecks_36 : decode cX9_layDecks 36 = .ok (.istore 6, 2) := by decide +kernel
theorem dX9_layDecks_38 : decode cX9_layDecks 38 = .ok (.iload 6, 2) := by decide +kernel
theorem dX9_layDecks_40 : decode cX9_layDecks 40 = .ok (.aload_n 0, 1) := by decide +kernel
theorem dX9_layDecks_41 : decode cX9_layDecks 41 = .ok (.invokevirtual 52, 3) := by decide +kernel
theorem dX9_layDecks_44 : decode cX9_layDecks 44 = .ok (.if_icmp .ge 56, 3) := by decide +kernel
theorem dX9_layDecks_47 : decode cX9_layDecks 47 = .ok (.iload 4, 2) := by decide +kernel
theorem dX9_layDecks_49 : decode cX9_layDecks 49 = .ok (.ifCond .eq 42, 3) := by decide +kernel
theorem dX9_layDecks_52 : decode cX9_layDecks 52 = .ok (.aload_n 0, 1) := by decide +kernel
theorem dX9_layDecks_53 : decode cX9_layDecks 53 = .ok (.getfield 30, 3) := by decide +kernel
theorem dX9_layDecks_56 : decode cX9_layDecks 56 = .ok (.iload 6, 2) := by decide +kernel
theorem dX9_layDecks_58 : decode cX9_layDecks 58 = .ok (.iaload, 1) := by decide +kernel
theorem dX9_layDecks_59 : decode cX9_layDecks 59 = .ok (.aload_n 0, 1) := by decide +kernel
theorem dX9_layDecks_60 : decode cX9_layDecks 60 = .ok (.getfield 30, 3) := by decide +kernel
theorem dX9_layDecks_63 : decode cX9_layDecks 63 = .ok (.iload 5, 2) := by decide +kernel
theorem dX9_layDecks_65 : decode cX9_layDecks 65 = .ok (.iaload, 1) := by decide +kernel
theorem dX9_layDecks_66 : decode cX9_layDecks 66 = .ok (.if_icmp .ne 21, 3) := by decide +kernel
theorem dX9_layDecks_69 : decode cX9_layDecks 69 = .ok (.aload_n 0, 1) := by decide +kernel
theorem dX9_layDecks_70 : decode cX9_layDecks 70 = .ok (.getfield 7, 3) := by decide +kernel
theorem dX9_layDecks_73 : decode cX9_layDecks 73 = .ok (.bipush 47, 2) := by decide +kernel
theorem dX9_layDecks_75 : decode cX9_layDecks 75 = .ok (.iload 5, 2) := by decide +kernel
theorem dX9_layDecks_77 : decode cX9_layDecks 77 = .ok (.iadd, 1) := by decide +kernel
theorem dX9_layDecks_78 : decode cX9_layDecks 78 = .ok (.iaload, 1) := by decide +kernel
theorem dX9_layDecks_79 : decode cX9_layDecks 79 = .ok (.iload 6, 2) := by decide +kernel
theorem dX9_layDecks_81 : decode cX9_layDecks 81 = .ok (.invokestatic 97, 3) := by decide +kernel
theorem dX9_layDecks_84 : decode cX9_layDecks 84 = .ok (.ifCond .ne 7, 3) := by decide +kernel
theorem dX9_layDecks_87 : decode cX9_layDecks 87 = .ok (.iconst 1, 1) := by decide +kernel
theorem dX9_layDecks_88 : decode cX9_layDecks 88 = .ok (.goto 4, 3) := by decide +kernel
theorem dX9_layDecks_91 : decode cX9_layDecks 91 = .ok (.iconst 0, 1) := by decide +kernel
theorem dX9_layDecks_92 : decode cX9_layDecks 92 = .ok (.istore 4, 2) := by decide +kernel
theorem dX9_layDecks_94 : decode cX9_layDecks 94 = .ok (.iinc 6 1, 3) := by decide +kernel
theorem dX9_layDecks_97 : decode cX9_layDecks 97 = .ok (.goto (-59), 3) := by decide +kernel
theorem dX9_layDecks_100 : decode cX9_layDecks 100 = .ok (.iinc 5 (-1), 3) := by decide +kernel
theorem dX9_layDecks_103 : decode cX9_layDecks 103 = .ok (.goto (-90), 3) := by decide +kernel
theorem dX9_layDecks_106 : decode cX9_layDecks 106 = .ok (.iload 4, 2) := by decide +kernel
theorem dX9_layDecks_108 : decode cX9_layDecks 108 = .ok (.ireturn, 1) := by decide +kernel
theorem dX9_fewestDecks_0 : decode cX9_fewestDecks 0 = .ok (.iconst 1, 1) := by decide +kernel
theorem dX9_fewestDecks_1 : decode cX9_fewestDecks 1 = .ok (.istore_n 1, 1) := by decide +kernel
theorem dX9_fewestDecks_2 : decode cX9_fewestDecks 2 = .ok (.iload_n 1, 1) := by decide +kernel
theorem dX9_fewestDecks_3 : decode cX9_fewestDecks 3 = .ok (.aload_n 0, 1) := by decide +kernel
theorem dX9_fewestDecks_4 : decode cX9_fewestDecks 4 = .ok (.invokevirtual 52, 3) := by decide +kernel
theorem dX9_fewestDecks_7 : decode cX9_fewestDecks 7 = .ok (.if_icmp .ge 55, 3) := by decide +kernel
theorem dX9_fewestDecks_10 : decode cX9_fewestDecks 10 = .ok (.iconst 1, 1) := by decide +kernel
theorem dX9_fewestDecks_11 : decode cX9_fewestDecks 11 = .ok (.istore_n 2, 1) := by decide +kernel
theorem dX9_fewestDecks_12 : decode cX9_fewestDecks 12 = .ok (.iconst 0, 1) := by decide +kernel
theorem dX9_fewestDecks_13 : decode cX9_fewestDecks 13 = .ok (.istore_n 3, 1) := by decide +kernel
theorem dX9_fewestDecks_14 : decode cX9_fewestDecks 14 = .ok (.iload_n 3, 1) := by decide +kernel
theorem dX9_fewestDecks_15 : decode cX9_fewestDecks 15 = .ok (.aload_n 0, 1) := by decide +kernel
theorem dX9_fewestDecks_16 : decode cX9_fewestDecks 16 = .ok (.invokevirtual 52, 3) := by decide +kernel
theorem dX9_fewestDecks_19 : decode cX9_fewestDecks 19 = .ok (.if_icmp .ge 13, 3) := by decide +kernel
theorem dX9_fewestDecks_22 : decode cX9_fewestDecks 22 = .ok (.iload_n 2, 1) := by decide +kernel
theorem dX9_fewestDecks_23 : decode cX9_fewestDecks 23 = .ok (.iload_n 1, 1) := by decide +kernel
theorem dX9_fewestDecks_24 : decode cX9_fewestDecks 24 = .ok (.imul, 1) := by decide +kernel
theorem dX9_fewestDecks_25 : decode cX9_fewestDecks 25 = .ok (.istore_n 2, 1) := by decide +kernel
theorem dX9_fewestDecks_26 : decode cX9_fewestDecks 26 = .ok (.iinc 3 1, 3) := by decide +kernel
theorem dX9_fewestDecks_29 : decode cX9_fewestDecks 29 = .ok (.goto (-15), 3) := by decide +kernel
theorem dX9_fewestDecks_32 : decode cX9_fewestDecks 32 = .ok (.iconst 0, 1) := by decide +kernel
theorem dX9_fewestDecks_33 : decode cX9_fewestDecks 33 = .ok (.istore_n 3, 1) := by decide +kernel
theorem dX9_fewestDecks_34 : decode cX9_fewestDecks 34 = .ok (.iload_n 3, 1) := by decide +kernel
theorem dX9_fewestDecks_35 : decode cX9_fewestDecks 35 = .ok (.iload_n 2, 1) := by decide +kernel
theorem dX9_fewestDecks_36 : decode cX9_fewestDecks 36 = .ok (.if_icmp .ge 20, 3) := by decide +kernel
theorem dX9_fewestDecks_39 : decode cX9_fewestDecks 39 = .ok (.aload_n 0, 1) := by decide +kernel
theorem dX9_fewestDecks_40 : decode cX9_fewestDecks 40 = .ok (.iload_n 3, 1) := by decide +kernel
theorem dX9_fewestDecks_41 : decode cX9_fewestDecks 41 = .ok (.iload_n 1, 1) := by decide +kernel
theorem dX9_fewestDecks_42 : decode cX9_fewestDecks 42 = .ok (.invokevirtual 133, 3) := by decide +kernel
theorem dX9_fewestDecks_45 : decode cX9_fewestDecks 45 = .ok (.ifCond .eq 5, 3) := by decide +kernel
theorem dX9_fewestDecks_48 : decode cX9_fewestDecks 48 = .ok (.iload_n 1, 1) := by decide +kernel
theorem dX9_fewestDecks_49 : decode cX9_fewestDecks 49 = .ok (.ireturn, 1) := by decide +kernel
theorem dX9_fewestDecks_50 : decode cX9_fewestDecks 50 = .ok (.iinc 3 1, 3) := by decide +kernel
theorem dX9_fewestDecks_53 : decode cX9_fewestDecks 53 = .ok (.goto (-19), 3) := by decide +kernel
theorem dX9_fewestDecks_56 : decode cX9_fewestDecks 56 = .ok (.iinc 1 1, 3) := by decide +kernel
theorem dX9_fewestDecks_59 : decode cX9_fewestDecks 59 = .ok (.goto (-57), 3) := by decide +kernel
theorem dX9_fewestDecks_62 : decode cX9_fewestDecks 62 = .ok (.iconst 0, 1) := by decide +kernel
theorem dX9_fewestDecks_63 : decode cX9_fewestDecks 63 = .ok (.istore_n 1, 1) := by decide +kernel
theorem dX9_fewestDecks_64 : decode cX9_fewestDecks 64 = .ok (.iload_n 1, 1) := by decide +kernel
theorem dX9_fewestDecks_65 : decode cX9_fewestDecks 65 = .ok (.aload_n 0, 1) := by decide +kernel
theorem dX9_fewestDecks_66 : decode cX9_fewestDecks 66 = .ok (.invokevirtual 52, 3) := by decide +kernel
theorem dX9_fewestDecks_69 : decode cX9_fewestDecks 69 = .ok (.if_icmp .ge 16, 3) := by decide +kernel
theorem dX9_fewestDecks_72 : decode cX9_fewestDecks 72 = .ok (.aload_n 0, 1) := by decide +kernel
theorem dX9_fewestDecks_73 : decode cX9_fewestDecks 73 = .ok (.getfield 30, 3) := by decide +kernel
theorem dX9_fewestDecks_76 : decode cX9_fewestDecks 76 = .ok (.iload_n 1, 1) := by decide +kernel
theorem dX9_fewestDecks_77 : decode cX9_fewestDecks 77 = .ok (.iload_n 1, 1) := by decide +kernel
theorem dX9_fewestDecks_78 : decode cX9_fewestDecks 78 = .ok (.iastore, 1) := by decide +kernel
theorem dX9_fewestDecks_79 : decode cX9_fewestDecks 79 = .ok (.iinc 1 1, 3) := by decide +kernel
theorem dX9_fewestDecks_82 : decode cX9_fewestDecks 82 = .ok (.goto (-18), 3) := by decide +kernel
theorem dX9_fewestDecks_85 : decode cX9_fewestDecks 85 = .ok (.aload_n 0, 1) := by decide +kernel
theorem dX9_fewestDecks_86 : decode cX9_fewestDecks 86 = .ok (.invokevirtual 52, 3) := by decide +kernel
theorem dX9_fewestDecks_89 : decode cX9_fewestDecks 89 = .ok (.ireturn, 1) := by decide +kernel
theorem dX9_decks_0 : decode cX9_decks 0 = .ok (.iload_n 1, 1) := by decide +kernel
theorem dX9_decks_1 : decode cX9_decks 1 = .ok (.i2l, 1) := by decide +kernel
theorem dX9_decks_2 : decode cX9_decks 2 = .ok (.ldc2_w 136, 3) := by decide +kernel
theorem dX9_decks_5 : decode cX9_decks 5 = .ok (.aload_n 0, 1) := by decide +kernel
theorem dX9_decks_6 : decode cX9_decks 6 = .ok (.invokevirtual 52, 3) := by decide +kernel
theorem dX9_decks_9 : decode cX9_decks 9 = .ok (.iconst 1, 1) := by decide +kernel
theorem dX9_decks_10 : decode cX9_decks 10 = .ok (.isub, 1) := by decide +kernel
theorem dX9_decks_11 : decode cX9_decks 11 = .ok (.i2l, 1) := by decide +kernel
theorem dX9_decks_12 : decode cX9_decks 12 = .ok (.invokestatic 56, 3) := by decide +kernel
theorem dX9_decks_15 : decode cX9_decks 15 = .ok (.ifCond .ne 10, 3) := by decide +kernel
theorem dX9_decks_18 : decode cX9_decks 18 = .ok (.aload_n 0, 1) := by decide +kernel
theorem dX9_decks_19 : decode cX9_decks 19 = .ok (.bipush (-10), 2) := by decide +kernel
theorem dX9_decks_21 : decode cX9_decks 21 = .ok (.invokevirtual 64, 3) := by decide +kernel
theorem dX9_decks_24 : decode cX9_decks 24 = .ok (.ireturn, 1) := by decide +kernel
theorem dX9_decks_25 : decode cX9_decks 25 = .ok (.aload_n 0, 1) := by decide +kernel
theorem dX9_decks_26 : decode cX9_decks 26 = .ok (.invokevirtual 138, 3) := by decide +kernel
theorem dX9_decks_29 : decode cX9_decks 29 = .ok (.istore_n 2, 1) := by decide +kernel
theorem dX9_decks_30 : decode cX9_decks 30 = .ok (.iload_n 1, 1) := by decide +kernel
theorem dX9_decks_31 : decode cX9_decks 31 = .ok (.iconst (-1), 1) := by decide +kernel
theorem dX9_decks_32 : decode cX9_decks 32 = .ok (.if_icmp .ne 7, 3) := by decide +kernel
theorem dX9_decks_35 : decode cX9_decks 35 = .ok (.iload_n 2, 1) := by decide +kernel
theorem dX9_decks_36 : decode cX9_decks 36 = .ok (.goto 9, 3) := by decide +kernel
theorem dX9_decks_39 : decode cX9_decks 39 = .ok (.aload_n 0, 1) := by decide +kernel
theorem dX9_decks_40 : decode cX9_decks 40 = .ok (.getfield 30, 3) := by decide +kernel
theorem dX9_decks_43 : decode cX9_decks 43 = .ok (.iload_n 1, 1) := by decide +kernel
theorem dX9_decks_44 : decode cX9_decks 44 = .ok (.iaload, 1) := by decide +kernel
theorem dX9_decks_45 : decode cX9_decks 45 = .ok (.ireturn, 1) := by decide +kernel
theorem dX9_manyLost_0 : decode cX9_manyLost 0 = .ok (.aload_n 0, 1) := by decide +kernel
theorem dX9_manyLost_1 : decode cX9_manyLost 1 = .ok (.getfield 27, 3) := by decide +kernel
theorem dX9_manyLost_4 : decode cX9_manyLost 4 = .ok (.bipush 6, 2) := by decide +kernel
theorem dX9_manyLost_6 : decode cX9_manyLost 6 = .ok (.iaload, 1) := by decide +kernel
theorem dX9_manyLost_7 : decode cX9_manyLost 7 = .ok (.invokestatic 105, 3) := by decide +kernel
theorem dX9_manyLost_10 : decode cX9_manyLost 10 = .ok (.aload_n 0, 1) := by decide +kernel
theorem dX9_manyLost_11 : decode cX9_manyLost 11 = .ok (.getfield 27, 3) := by decide +kernel
theorem dX9_manyLost_14 : decode cX9_manyLost 14 = .ok (.iconst 5, 1) := by decide +kernel
theorem dX9_manyLost_15 : decode cX9_manyLost 15 = .ok (.iaload, 1) := by decide +kernel
theorem dX9_manyLost_16 : decode cX9_manyLost 16 = .ok (.invokestatic 105, 3) := by decide +kernel
theorem dX9_manyLost_19 : decode cX9_manyLost 19 = .ok (.iadd, 1) := by decide +kernel
theorem dX9_manyLost_20 : decode cX9_manyLost 20 = .ok (.ireturn, 1) := by decide +kernel
theorem dX9_better_0 : decode cX9_better 0 = .ok (.aload_n 0, 1) := by decide +kernel
theorem dX9_better_1 : decode cX9_better 1 = .ok (.invokevirtual 141, 3) := by decide +kernel
theorem dX9_better_4 : decode cX9_better 4 = .ok (.aload_n 0, 1) := by decide +kernel
theorem dX9_better_5 : decode cX9_better 5 = .ok (.bipush 10, 2) := by decide +kernel
theorem dX9_better_7 : decode cX9_better 7 = .ok (.invokevirtual 125, 3) := by decide +kernel
theorem dX9_better_10 : decode cX9_better 10 = .ok (.iconst (-1), 1) := by decide +kernel
theorem dX9_better_11 : decode cX9_better 11 = .ok (.istore_n 1, 1) := by decide +kernel
theorem dX9_better_12 : decode cX9_better 12 = .ok (.aload_n 0, 1) := by decide +kernel
theorem dX9_better_13 : decode cX9_better 13 = .ok (.invokevirtual 144, 3) := by decide +kernel
theorem dX9_better_16 : decode cX9_better 16 = .ok (.istore_n 2, 1) := by decide +kernel
theorem dX9_better_17 : decode cX9_better 17 = .ok (.iconst 0, 1) := by decide +kernel
theorem dX9_better_18 : decode cX9_better 18 = .ok (.istore_n 3, 1) := by decide +kernel
theorem dX9_better_19 : decode cX9_better 19 = .ok (.iload_n 3, 1) := by decide +kernel
theorem dX9_better_20 : decode cX9_better 20 = .ok (.aload_n 0, 1) := by decide +kernel
theorem dX9_better_21 : decode cX9_better 21 = .ok (.invokevirtual 52, 3) := by decide +kernel
theorem dX9_better_24 : decode cX9_better 24 = .ok (.if_icmp .ge 90, 3) := by decide +kernel
theorem dX9_better_27 : decode cX9_better 27 = .ok (.iconst 0, 1) := by decide +kernel
theorem dX9_better_28 : decode cX9_better 28 = .ok (.istore 4, 2) := by decide +kernel
theorem dX9_better_30 : decode cX9_better 30 = .ok (.iload 4, 2) := by decide +kernel
theorem dX9_better_32 : decode cX9_better 32 = .ok (.aload_n 0, 1) := by decide +kernel
theorem dX9_better_33 : decode cX9_better 33 = .ok (.getfield 7, 3) := by decide +kernel
theorem dX9_better_36 : decode cX9_better 36 = .ok (.bipush 40, 2) := by decide +kernel
theorem dX9_better_38 : decode cX9_better 38 = .ok (.iload_n 3, 1) := by decide +kernel
theorem dX9_better_39 : decode cX9_better 39 = .ok (.iadd, 1) := by decide +kernel
theorem dX9_better_40 : decode cX9_better 40 = .ok (.iaload, 1) := by decide +kernel
theorem dX9_better_41 : decode cX9_better 41 = .ok (.if_icmp .ge 67, 3) := by decide +kernel
theorem dX9_better_44 : decode cX9_better 44 = .ok (.aload_n 0, 1) := by decide +kernel
theorem dX9_better_45 : decode cX9_better 45 = .ok (.invokevirtual 141, 3) := by decide +kernel
theorem dX9_better_48 : decode cX9_better 48 = .ok (.aload_n 0, 1) := by decide +kernel
theorem dX9_better_49 : decode cX9_better 49 = .ok (.getfield 27, 3) := by decide +kernel
theorem dX9_better_52 : decode cX9_better 52 = .ok (.bipush 33, 2) := by decide +kernel
theorem dX9_better_54 : decode cX9_better 54 = .ok (.iload_n 3, 1) := by decide +kernel
theorem dX9_better_55 : decode cX9_better 55 = .ok (.iadd, 1) := by decide +kernel
theorem dX9_better_56 : decode cX9_better 56 = .ok (.iload 4, 2) := by decide +kernel
theorem dX9_better_58 : decode cX9_better 58 = .ok (.iastore, 1) := by decide +kernel
theorem dX9_better_59 : decode cX9_better 59 = .ok (.aload_n 0, 1) := by decide +kernel
theorem dX9_better_60 : decode cX9_better 60 = .ok (.bipush 10, 2) := by decide +kernel
theorem dX9_better_62 : decode cX9_better 62 = .ok (.invokevirtual 125, 3) := by decide +kernel
theorem dX9_better_65 : decode cX9_better 65 = .ok (.aload_n 0, 1) := by decide +kernel
theorem dX9_better_66 : decode cX9_better 66 = .ok (.invokevirtual 144, 3) := by decide +kernel
theorem dX9_better_69 : decode cX9_better 69 = .ok (.iload_n 2, 1) := by decide +kernel
theorem dX9_better_70 : decode cX9_better 70 = .ok (.if_icmp .ge 13, 3) := by decide +kernel
theorem dX9_better_73 : decode cX9_better 73 = .ok (.bipush 10, 2) := by decide +kernel
theorem dX9_better_75 : decode cX9_better 75 = .ok (.iload_n 3, 1) := by decide +kernel
theorem dX9_better_76 : decode cX9_better 76 = .ok (.imul, 1) := by decide +kernel
theorem dX9_better_77 : decode cX9_better 77 = .ok (.iload 4, 2) := by decide +kernel
theorem dX9_better_79 : decode cX9_better 79 = .ok (.iadd, 1) := by decide +kernel
theorem dX9_better_80 : decode cX9_better 80 = .ok (.goto 4, 3) := by decide +kernel
theorem dX9_better_83 : decode cX9_better 83 = .ok (.iload_n 1, 1) := by decide +kernel
theorem dX9_better_84 : decode cX9_better 84 = .ok (.istore_n 1, 1) := by decide +kernel
theorem dX9_better_85 : decode cX9_better 85 = .ok (.aload_n 0, 1) := by decide +kernel
theorem dX9_better_86 : decode cX9_better 86 = .ok (.invokevirtual 144, 3) := by decide +kernel
theorem dX9_better_89 : decode cX9_better 89 = .ok (.iload_n 2, 1) := by decide +kernel
theorem dX9_better_90 : decode cX9_better 90 = .ok (.if_icmp .ge 10, 3) := by decide +kernel
theorem dX9_better_93 : decode cX9_better 93 = .ok (.aload_n 0, 1) := by decide +kernel
theorem dX9_better_94 : decode cX9_better 94 = .ok (.invokevirtual 144, 3) := by decide +kernel
theorem dX9_better_97 : decode cX9_better 97 = .ok (.goto 4, 3) := by decide +kernel
theorem dX9_better_100 : decode cX9_better 100 = .ok (.iload_n 2, 1) := by decide +kernel
theorem dX9_better_101 : decode cX9_better 101 = .ok (.istore_n 2, 1) := by decide +kernel
theorem dX9_better_102 : decode cX9_better 102 = .ok (.iinc 4 1, 3) := by decide +kernel
theorem dX9_better_105 : decode cX9_better 105 = .ok (.goto (-75), 3) := by decide +kernel
theorem dX9_better_108 : decode cX9_better 108 = .ok (.iinc 3 1, 3) := by decide +kernel
theorem dX9_better_111 : decode cX9_better 111 = .ok (.goto (-92), 3) := by decide +kernel
theorem dX9_better_114 : decode cX9_better 114 = .ok (.iload_n 1, 1) := by decide +kernel
theorem dX9_better_115 : decode cX9_better 115 = .ok (.ireturn, 1) := by decide +kernel
theorem dX9_raise_0 : decode cX9_raise 0 = .ok (.iconst 0, 1) := by decide +kernel
theorem dX9_raise_1 : decode cX9_raise 1 = .ok (.istore_n 1, 1) := by decide +kernel
theorem dX9_raise_2 : decode cX9_raise 2 = .ok (.iload_n 1, 1) := by decide +kernel
theorem dX9_raise_3 : decode cX9_raise 3 = .ok (.bipush 10, 2) := by decide +kernel
theorem dX9_raise_5 : decode cX9_raise 5 = .ok (.if_icmp .ge 73, 3) := by decide +kernel
theorem dX9_raise_8 : decode cX9_raise 8 = .ok (.aload_n 0, 1) := by decide +kernel
theorem dX9_raise_9 : decode cX9_raise 9 = .ok (.invokevirtual 141, 3) := by decide +kernel
theorem dX9_raise_12 : decode cX9_raise 12 = .ok (.iconst 0, 1) := by decide +kernel
theorem dX9_raise_13 : decode cX9_raise 13 = .ok (.istore_n 2, 1) := by decide +kernel
theorem dX9_raise_14 : decode cX9_raise 14 = .ok (.iload_n 2, 1) := by decide +kernel
theorem dX9_raise_15 : decode cX9_raise 15 = .ok (.bipush 10, 2) := by decide +kernel
theorem dX9_raise_17 : decode cX9_raise 17 = .ok (.if_icmp .ge 38, 3) := by decide +kernel
theorem dX9_raise_20 : decode cX9_raise 20 = .ok (.aload_n 0, 1) := by decide +kernel
theorem dX9_raise_21 : decode cX9_raise 21 = .ok (.getfield 27, 3) := by decide +kernel
theorem dX9_raise_24 : decode cX9_raise 24 = .ok (.bipush 9, 2) := by decide +kernel
theorem dX9_raise_26 : decode cX9_raise 26 = .ok (.iload_n 2, 1) := by decide +kernel
theorem dX9_raise_27 : decode cX9_raise 27 = .ok (.iadd, 1) := by decide +kernel
theorem dX9_raise_28 : decode cX9_raise 28 = .ok (.dup2, 1) := by decide +kernel
theorem dX9_raise_29 : decode cX9_raise 29 = .ok (.iaload, 1) := by decide +kernel
theorem dX9_raise_30 : decode cX9_raise 30 = .ok (.aload_n 0, 1) := by decide +kernel
theorem dX9_raise_31 : decode cX9_raise 31 = .ok (.getfield 27, 3) := by decide +kernel
theorem dX9_raise_34 : decode cX9_raise 34 = .ok (.bipush 9, 2) := by decide +kernel
theorem dX9_raise_36 : decode cX9_raise 36 = .ok (.iload_n 2, 1) := by decide +kernel
theorem dX9_raise_37 : decode cX9_raise 37 = .ok (.iadd, 1) := by decide +kernel
theorem dX9_raise_38 : decode cX9_raise 38 = .ok (.iaload, 1) := by decide +kernel
theorem dX9_raise_39 : decode cX9_raise 39 = .ok (.ifCond .le 7, 3) := by decide +kernel
theorem dX9_raise_42 : decode cX9_raise 42 = .ok (.iload_n 1, 1) := by decide +kernel
theorem dX9_raise_43 : decode cX9_raise 43 = .ok (.goto 4, 3) := by decide +kernel
theorem dX9_raise_46 : decode cX9_raise 46 = .ok (.iconst 0, 1) := by decide +kernel
theorem dX9_raise_47 : decode cX9_raise 47 = .ok (.iadd, 1) := by decide +kernel
theorem dX9_raise_48 : decode cX9_raise 48 = .ok (.iastore, 1) := by decide +kernel
theorem dX9_raise_49 : decode cX9_raise 49 = .ok (.iinc 2 1, 3) := by decide +kernel
theorem dX9_raise_52 : decode cX9_raise 52 = .ok (.goto (-38), 3) := by decide +kernel
theorem dX9_raise_55 : decode cX9_raise 55 = .ok (.aload_n 0, 1) := by decide +kernel
theorem dX9_raise_56 : decode cX9_raise 56 = .ok (.bipush 10, 2) := by decide +kernel
theorem dX9_raise_58 : decode cX9_raise 58 = .ok (.invokevirtual 125, 3) := by decide +kernel
theorem dX9_raise_61 : decode cX9_raise 61 = .ok (.aload_n 0, 1) := by decide +kernel
theorem dX9_raise_62 : decode cX9_raise 62 = .ok (.getfield 27, 3) := by decide +kernel
theorem dX9_raise_65 : decode cX9_raise 65 = .ok (.iconst 5, 1) := by decide +kernel
theorem dX9_raise_66 : decode cX9_raise 66 = .ok (.iaload, 1) := by decide +kernel
theorem dX9_raise_67 : decode cX9_raise 67 = .ok (.ifCond .ne 5, 3) := by decide +kernel
theorem dX9_raise_70 : decode cX9_raise 70 = .ok (.iload_n 1, 1) := by decide +kernel
theorem dX9_raise_71 : decode cX9_raise 71 = .ok (.ireturn, 1) := by decide +kernel
theorem dX9_raise_72 : decode cX9_raise 72 = .ok (.iinc 1 1, 3) := by decide +kernel
theorem dX9_raise_75 : decode cX9_raise 75 = .ok (.goto (-73), 3) := by decide +kernel
theorem dX9_raise_78 : decode cX9_raise 78 = .ok (.iconst (-1), 1) := by decide +kernel
theorem dX9_raise_79 : decode cX9_raise 79 = .ok (.ireturn, 1) := by decide +kernel
theorem dX9_upstairs_0 : decode cX9_upstairs 0 = .ok (.iload_n 1, 1) := by decide +kernel
theorem dX9_upstairs_1 : decode cX9_upstairs 1 = .ok (.invokestatic 68, 3) := by decide +kernel
theorem dX9_upstairs_4 : decode cX9_upstairs 4 = .ok (.ifCond .eq 27, 3) := by decide +kernel
theorem dX9_upstairs_7 : decode cX9_upstairs 7 = .ok (.iload_n 2, 1) := by decide +kernel
theorem dX9_upstairs_8 : decode cX9_upstairs 8 = .ok (.i2l, 1) := by decide +kernel
theorem dX9_upstairs_9 : decode cX9_upstairs 9 = .ok (.lconst 0, 1) := by decide +kernel
theorem dX9_upstairs_10 : decode cX9_upstairs 10 = .ok (.ldc2_w 147, 3) := by decide +kernel
theorem dX9_upstairs_13 : decode cX9_upstairs 13 = .ok (.invokestatic 56, 3) := by decide +kernel
theorem dX9_upstairs_16 : decode cX9_upstairs 16 = .ok (.ifCond .eq 15, 3) := by decide +kernel
theorem dX9_upstairs_19 : decode cX9_upstairs 19 = .ok (.iload_n 3, 1) := by decide +kernel
theorem dX9_upstairs_20 : decode cX9_upstairs 20 = .ok (.i2l, 1) := by decide +kernel
theorem dX9_upstairs_21 : decode cX9_upstairs 21 = .ok (.lconst 0, 1) := by decide +kernel
theorem dX9_upstairs_22 : decode cX9_upstairs 22 = .ok (.ldc2_w 131, 3) := by decide +kernel
theorem dX9_upstairs_25 : decode cX9_upstairs 25 = .ok (.invokestatic 56, 3) := by decide +kernel
theorem dX9_upstairs_28 : decode cX9_upstairs 28 = .ok (.ifCond .ne 10, 3) := by decide +kernel
theorem dX9_upstairs_31 : decode cX9_upstairs 31 = .ok (.aload_n 0, 1) := by decide +kernel
theorem dX9_upstairs_32 : decode cX9_upstairs 32 = .ok (.bipush (-2), 2) := by decide +kernel
theorem dX9_upstairs_34 : decode cX9_upstairs 34 = .ok (.invokevirtual 64, 3) := by decide +kernel
theorem dX9_upstairs_37 : decode cX9_upstairs 37 = .ok (.ireturn, 1) := by decide +kernel
theorem dX9_upstairs_38 : decode cX9_upstairs 38 = .ok (.iconst 0, 1) := by decide +kernel
theorem dX9_upstairs_39 : decode cX9_upstairs 39 = .ok (.istore 4, 2) := by decide +kernel
theorem dX9_upstairs_41 : decode cX9_upstairs 41 = .ok (.iconst 1, 1) := by decide +kernel
theorem dX9_upstairs_42 : decode cX9_upstairs 42 = .ok (.aload_n 0, 1) := by decide +kernel
theorem dX9_upstairs_43 : decode cX9_upstairs 43 = .ok (.invokevirtual 52, 3) := by decide +kernel
theorem dX9_upstairs_46 : decode cX9_upstairs 46 = .ok (.ishl, 1) := by decide +kernel
theorem dX9_upstairs_47 : decode cX9_upstairs 47 = .ok (.iconst 1, 1) := by decide +kernel
theorem dX9_upstairs_48 : decode cX9_upstairs 48 = .ok (.isub, 1) := by decide +kernel
theorem dX9_upstairs_49 : decode cX9_upstairs 49 = .ok (.istore 5, 2) := by decide +kernel
theorem dX9_upstairs_51 : decode cX9_upstairs 51 = .ok (.iconst 0, 1) := by decide +kernel
theorem dX9_upstairs_52 : decode cX9_upstairs 52 = .ok (.istore 6, 2) := by decide +kernel
theorem dX9_upstairs_54 : decode cX9_upstairs 54 = .ok (.aload_n 0, 1) := by decide +kernel
theorem dX9_upstairs_55 : decode cX9_upstairs 55 = .ok (.invokevirtual 90, 3) := by decide +kernel
theorem dX9_upstairs_58 : decode cX9_upstairs 58 = .ok (.iconst 0, 1) := by decide +kernel
theorem dX9_upstairs_59 : decode cX9_upstairs 59 = .ok (.istore 7, 2) := by decide +kernel
theorem dX9_upstairs_61 : decode cX9_upstairs 61 = .ok (.iload 7, 2) := by decide +kernel
theorem dX9_upstairs_63 : decode cX9_upstairs 63 = .ok (.iconst 1, 1) := by decide +kernel
theorem dX9_upstairs_64 : decode cX9_upstairs 64 = .ok (.aload_n 0, 1) := by decide +kernel
theorem dX9_upstairs_65 : decode cX9_upstairs 65 = .ok (.invokevirtual 52, 3) := by decide +kernel
theorem dX9_upstairs_68 : decode cX9_upstairs 68 = .ok (.ishl, 1) := by decide +kernel
theorem dX9_upstairs_69 : decode cX9_upstairs 69 = .ok (.if_icmp .ge 145, 3) := by decide +kernel
theorem dX9_upstairs_72 : decode cX9_upstairs 72 = .ok (.iload 7, 2) := by decide +kernel
theorem dX9_upstairs_74 : decode cX9_upstairs 74 = .ok (.invokestatic 105, 3) := by decide +kernel
theorem dX9_upstairs_77 : decode cX9_upstairs 77 = .ok (.aload_n 0, 1) := by decide +kernel
theorem dX9_upstairs_78 : decode cX9_upstairs 78 = .ok (.getfield 7, 3) := by decide +kernel
theorem dX9_upstairs_81 : decode cX9_upstairs 81 = .ok (.bipush 8, 2) := by decide +kernel
theorem dX9_upstairs_83 : decode cX9_upstairs 83 = .ok (.iaload, 1) := by decide +kernel
theorem dX9_upstairs_84 : decode cX9_upstairs 84 = .ok (.if_icmp .gt 18, 3) := by decide +kernel
theorem dX9_upstairs_87 : decode cX9_upstairs 87 = .ok (.aload_n 0, 1) := by decide +kernel
theorem dX9_upstairs_88 : decode cX9_upstairs 88 = .ok (.iload 7, 2) := by decide +kernel
theorem dX9_upstairs_90 : decode cX9_upstairs 90 = .ok (.iload_n 1, 1) := by decide +kernel
theorem dX9_upstairs_91 : decode cX9_upstairs 91 = .ok (.invokevirtual 111, 3) := by decide +kernel
theorem dX9_upstairs_94 : decode cX9_upstairs 94 = .ok (.iload_n 2, 1) := by decide +kernel
theorem dX9_upstairs_95 : decode cX9_upstairs 95 = .ok (.if_icmp .ne 7, 3) := by decide +kernel
theorem dX9_upstairs_98 : decode cX9_upstairs 98 = .ok (.iconst 1, 1) := by decide +kernel
theorem dX9_upstairs_99 : decode cX9_upstairs 99 = .ok (.goto 4, 3) := by decide +kernel
theorem dX9_upstairs_102 : decode cX9_upstairs 102 = .ok (.iconst 0, 1) := by decide +kernel
theorem dX9_upstairs_103 : decode cX9_upstairs 103 = .ok (.istore 8, 2) := by decide +kernel
theorem dX9_upstairs_105 : decode cX9_upstairs 105 = .ok (.iconst 0, 1) := by decide +kernel
theorem dX9_upstairs_106 : decode cX9_upstairs 106 = .ok (.istore 9, 2) := by decide +kernel
theorem dX9_upstairs_108 : decode cX9_upstairs 108 = .ok (.iload 9, 2) := by decide +kernel
theorem dX9_upstairs_110 : decode cX9_upstairs 110 = .ok (.aload_n 0, 1) := by decide +kernel
theorem dX9_upstairs_111 : decode cX9_upstairs 111 = .ok (.invokevirtual 52, 3) := by decide +kernel
theorem dX9_upstairs_114 : decode cX9_upstairs 114 = .ok (.if_icmp .ge 47, 3) := by decide +kernel
theorem dX9_upstairs_117 : decode cX9_upstairs 117 = .ok (.iload 8, 2) := by decide +kernel
theorem dX9_upstairs_119 : decode cX9_upstairs 119 = .ok (.ifCond .eq 33, 3) := by decide +kernel
theorem dX9_upstairs_122 : decode cX9_upstairs 122 = .ok (.iload 7, 2) := by decide +kernel
theorem dX9_upstairs_124 : decode cX9_upstairs 124 = .ok (.iload 9, 2) := by decide +kernel
theorem dX9_upstairs_126 : decode cX9_upstairs 126 = .ok (.invokestatic 97, 3) := by decide +kernel
theorem dX9_upstairs_129 : decode cX9_upstairs 129 = .ok (.ifCond .eq 19, 3) := by decide +kernel
theorem dX9_upstairs_132 : decode cX9_upstairs 132 = .ok (.iload 7, 2) := by decide +kernel
theorem dX9_upstairs_134 : decode cX9_upstairs 134 = .ok (.aload_n 0, 1) := by decide +kernel
theorem dX9_upstairs_135 : decode cX9_upstairs 135 = .ok (.getfield 7, 3) := by decide +kernel
theorem dX9_upstairs_138 : decode cX9_upstairs 138 = .ok (.bipush 47, 2) := by decide +kernel
theorem dX9_upstairs_140 : decode cX9_upstairs 140 = .ok (.iload 9, 2) := by decide +kernel
theorem dX9_upstairs_142 : decode cX9_upstairs 142 = .ok (.iadd, 1) := by decide +kernel
theorem dX9_upstairs_143 : decode cX9_upstairs 143 = .ok (.iaload, 1) := by decide +kernel
theorem dX9_upstairs_144 : decode cX9_upstairs 144 = .ok (.iand, 1) := by decide +kernel
theorem dX9_upstairs_145 : decode cX9_upstairs 145 = .ok (.ifCond .ne 7, 3) := by decide +kernel
theorem dX9_upstairs_148 : decode cX9_upstairs 148 = .ok (.iconst 1, 1) := by decide +kernel
theorem dX9_upstairs_149 : decode cX9_upstairs 149 = .ok (.goto 4, 3) := by decide +kernel
theorem dX9_upstairs_152 : decode cX9_upstairs 152 = .ok (.iconst 0, 1) := by decide +kernel
theorem dX9_upstairs_153 : decode cX9_upstairs 153 = .ok (.istore 8, 2) := by decide +kernel
theorem dX9_upstairs_155 : decode cX9_upstairs 155 = .ok (.iinc 9 1, 3) := by decide +kernel
theorem dX9_upstairs_158 : decode cX9_upstairs 158 = .ok (.goto (-50), 3) := by decide +kernel
theorem dX9_upstairs_161 : decode cX9_upstairs 161 = .ok (.iload 5, 2) := by decide +kernel
theorem dX9_upstairs_163 : decode cX9_upstairs 163 = .ok (.iload 8, 2) := by decide +kernel
theorem dX9_upstairs_165 : decode cX9_upstairs 165 = .ok (.ifCond .eq 8, 3) := by decide +kernel
theorem dX9_upstairs_168 : decode cX9_upstairs 168 = .ok (.iload 7, 2) := by decide +kernel
theorem dX9_upstairs_170 : decode cX9_upstairs 170 = .ok (.goto 4, 3) := by decide +kernel
theorem dX9_upstairs_173 : decode cX9_upstairs 173 = .ok (.iconst (-1), 1) := by decide +kernel
theorem dX9_upstairs_174 : decode cX9_upstairs 174 = .ok (.iand, 1) := by decide +kernel
theorem dX9_upstairs_175 : decode cX9_upstairs 175 = .ok (.istore 5, 2) := by decide +kernel
theorem dX9_upstairs_177 : decode cX9_upstairs 177 = .ok (.iload 6, 2) := by decide +kernel
theorem dX9_upstairs_179 : decode cX9_upstairs 179 = .ok (.iload 8, 2) := by decide +kernel
theorem dX9_upstairs_181 : decode cX9_upstairs 181 = .ok (.ifCond .eq 8, 3) := by decide +kernel
theorem dX9_upstairs_184 : decode cX9_upstairs 184 = .ok (.iload 7, 2) := by decide +kernel
theorem dX9_upstairs_186 : decode cX9_upstairs 186 = .ok (.goto 4, 3) := by decide +kernel
theorem dX9_upstairs_189 : decode cX9_upstairs 189 = .ok (.iconst 0, 1) := by decide +kernel
theorem dX9_upstairs_190 : decode cX9_upstairs 190 = .ok (.ior, 1) := by decide +kernel
theorem dX9_upstairs_191 : decode cX9_upstairs 191 = .ok (.istore 6, 2) := by decide +kernel
theorem dX9_upstairs_193 : decode cX9_upstairs 193 = .ok (.iload 4, 2) := by decide +kernel
theorem dX9_upstairs_195 : decode cX9_upstairs 195 = .ok (.iload 8, 2) := by decide +kernel
theorem dX9_upstairs_197 : decode cX9_upstairs 197 = .ok (.ifCond .eq 7, 3) := by decide +kernel
theorem dX9_upstairs_200 : decode cX9_upstairs 200 = .ok (.iconst 1, 1) := by decide +kernel
theorem dX9_upstairs_201 : decode cX9_upstairs 201 = .ok (.goto 4, 3) := by decide +kernel
theorem dX9_upstairs_204 : decode cX9_upstairs 204 = .ok (.iconst 0, 1) := by decide +kernel
theorem dX9_upstairs_205 : decode cX9_upstairs 205 = .ok (.iadd, 1) := by decide +kernel
theorem dX9_upstairs_206 : decode cX9_upstairs 206 = .ok (.istore 4, 2) := by decide +kernel
theorem dX9_upstairs_208 : decode cX9_upstairs 208 = .ok (.iinc 7 1, 3) := by decide +kernel
theorem dX9_upstairs_211 : decode cX9_upstairs 211 = .ok (.goto (-150), 3) := by decide +kernel
theorem dX9_upstairs_214 : decode cX9_upstairs 214 = .ok (.iload_n 3, 1) := by decide +kernel
theorem dX9_upstairs_215 : decode cX9_upstairs 215 = .ok (.ifCond .ne 8, 3) := by decide +kernel
theorem dX9_upstairs_218 : decode cX9_upstairs 218 = .ok (.iload 4, 2) := by decide +kernel
theorem dX9_upstairs_220 : decode cX9_upstairs 220 = .ok (.goto 24, 3) := by decide +kernel
theorem dX9_upstairs_223 : decode cX9_upstairs 223 = .ok (.iload_n 3, 1) := by decide +kernel
theorem dX9_upstairs_224 : decode cX9_upstairs 224 = .ok (.iconst 2, 1) := by decide +kernel
theorem dX9_upstairs_225 : decode cX9_upstairs 225 = .ok (.if_icmp .ne 8, 3) := by decide +kernel
theorem dX9_upstairs_228 : decode cX9_upstairs 228 = .ok (.iload 6, 2) := by decide +kernel
theorem dX9_upstairs_230 : decode cX9_upstairs 230 = .ok (.goto 14, 3) := by decide +kernel
theorem dX9_upstairs_233 : decode cX9_upstairs 233 = .ok (.iload 4, 2) := by decide +kernel
theorem dX9_upstairs_235 : decode cX9_upstairs 235 = .ok (.ifCond .ne 7, 3) := by decide +kernel
theorem dX9_upstairs_238 : decode cX9_upstairs 238 = .ok (.iconst (-1), 1) := by decide +kernel
theorem dX9_upstairs_239 : decode cX9_upstairs 239 = .ok (.goto 5, 3) := by decide +kernel
theorem dX9_upstairs_242 : decode cX9_upstairs 242 = .ok (.iload 5, 2) := by decide +kernel
theorem dX9_upstairs_244 : decode cX9_upstairs 244 = .ok (.ireturn, 1) := by decide +kernel
theorem dX9_note_0 : decode cX9_note 0 = .ok (.aload_n 0, 1) := by decide +kernel
theorem dX9_note_1 : decode cX9_note 1 = .ok (.iload_n 1, 1) := by decide +kernel
theorem dX9_note_2 : decode cX9_note 2 = .ok (.invokevirtual 83, 3) := by decide +kernel
theorem dX9_note_5 : decode cX9_note 5 = .ok (.ifCond .eq 35, 3) := by decide +kernel
theorem dX9_note_8 : decode cX9_note 8 = .ok (.iload_n 2, 1) := by decide +kernel
theorem dX9_note_9 : decode cX9_note 9 = .ok (.invokestatic 68, 3) := by decide +kernel
theorem dX9_note_12 : decode cX9_note 12 = .ok (.ifCond .eq 28, 3) := by decide +kernel
theorem dX9_note_15 : decode cX9_note 15 = .ok (.iload_n 3, 1) := by decide +kernel
theorem dX9_note_16 : decode cX9_note 16 = .ok (.i2l, 1) := by decide +kernel
theorem dX9_note_17 : decode cX9_note 17 = .ok (.lconst 0, 1) := by decide +kernel
theorem dX9_note_18 : decode cX9_note 18 = .ok (.ldc2_w 149, 3) := by decide +kernel
theorem dX9_note_21 : decode cX9_note 21 = .ok (.invokestatic 56, 3) := by decide +kernel
theorem dX9_note_24 : decode cX9_note 24 = .ok (.ifCond .eq 16, 3) := by decide +kernel
theorem dX9_note_27 : decode cX9_note 27 = .ok (.iload 4, 2) := by decide +kernel
theorem dX9_note_29 : decode cX9_note 29 = .ok (.i2l, 1) := by decide +kernel
theorem dX9_note_30 : decode cX9_note 30 = .ok (.lconst 0, 1) := by decide +kernel
theorem dX9_note_31 : decode cX9_note 31 = .ok (.ldc2_w 60, 3) := by decide +kernel
theorem dX9_note_34 : decode cX9_note 34 = .ok (.invokestatic 56, 3) := by decide +kernel
theorem dX9_note_37 : decode cX9_note 37 = .ok (.ifCond .ne 10, 3) := by decide +kernel
theorem dX9_note_40 : decode cX9_note 40 = .ok (.aload_n 0, 1) := by decide +kernel
theorem dX9_note_41 : decode cX9_note 41 = .ok (.bipush (-2), 2) := by decide +kernel
theorem dX9_note_43 : decode cX9_note 43 = .ok (.invokevirtual 64, 3) := by decide +kernel
theorem dX9_note_46 : decode cX9_note 46 = .ok (.ireturn, 1) := by decide +kernel
theorem dX9_note_47 : decode cX9_note 47 = .ok (.aload_n 0, 1) := by decide +kernel
theorem dX9_note_48 : decode cX9_note 48 = .ok (.getfield 7, 3) := by decide +kernel
theorem dX9_note_51 : decode cX9_note 51 = .ok (.iconst 1, 1) := by decide +kernel
theorem dX9_note_52 : decode cX9_note 52 = .ok (.iaload, 1) := by decide +kernel
theorem dX9_note_53 : decode cX9_note 53 = .ok (.bipush 6, 2) := by decide +kernel
theorem dX9_note_55 : decode cX9_note 55 = .ok (.if_icmp .ne 8, 3) := by decide +kernel
theorem dX9_note_58 : decode cX9_note 58 = .ok (.aload_n 0, 1) := by decide +kernel
theorem dX9_note_59 : decode cX9_note 59 = .ok (.invokevirtual 76, 3) := by decide +kernel
theorem dX9_note_62 : decode cX9_note 62 = .ok (.ireturn, 1) := by decide +kernel
theorem dX9_note_63 : decode cX9_note 63 = .ok (.bipush 54, 2) := by decide +kernel
theorem dX9_note_65 : decode cX9_note 65 = .ok (.iconst 4, 1) := by decide +kernel
theorem dX9_note_66 : decode cX9_note 66 = .ok (.aload_n 0, 1) := by decide +kernel
theorem dX9_note_67 : decode cX9_note 67 = .ok (.getfield 7, 3) := by decide +kernel
theorem dX9_note_70 : decode cX9_note 70 = .ok (.iconst 1, 1) := by decide +kernel
theorem dX9_note_71 : decode cX9_note 71 = .ok (.iaload, 1) := by decide +kernel
theorem dX9_note_72 : decode cX9_note 72 = .ok (.imul, 1) := by decide +kernel
theorem dX9_note_73 : decode cX9_note 73 = .ok (.iadd, 1) := by decide +kernel
theorem dX9_note_74 : decode cX9_note 74 = .ok (.istore 5, 2) := by decide +kernel
theorem dX9_note_76 : decode cX9_note 76 = .ok (.aload_n 0, 1) := by decide +kernel
theorem dX9_note_77 : decode cX9_note 77 = .ok (.getfield 7, 3) := by decide +kernel
theorem dX9_note_80 : decode cX9_note 80 = .ok (.iload 5, 2) := by decide +kernel
theorem dX9_note_82 : decode cX9_note 82 = .ok (.iload_n 1, 1) := by decide +kernel
theorem dX9_note_83 : decode cX9_note 83 = .ok (.iastore, 1) := by decide +kernel
theorem dX9_note_84 : decode cX9_note 84 = .ok (.aload_n 0, 1) := by decide +kernel
theorem dX9_note_85 : decode cX9_note 85 = .ok (.getfield 7, 3) := by decide +kernel
theorem dX9_note_88 : decode cX9_note 88 = .ok (.iload 5, 2) := by decide +kernel
theorem dX9_note_90 : decode cX9_note 90 = .ok (.iconst 1, 1) := by decide +kernel
theorem dX9_note_91 : decode cX9_note 91 = .ok (.iadd, 1) := by decide +kernel
theorem dX9_note_92 : decode cX9_note 92 = .ok (.iload_n 2, 1) := by decide +kernel
theorem dX9_note_93 : decode cX9_note 93 = .ok (.iastore, 1) := by decide +kernel
theorem dX9_note_94 : decode cX9_note 94 = .ok (.aload_n 0, 1) := by decide +kernel
theorem dX9_note_95 : decode cX9_note 95 = .ok (.getfield 7, 3) := by decide +kernel
theorem dX9_note_98 : decode cX9_note 98 = .ok (.iload 5, 2) := by decide +kernel
theorem dX9_note_100 : decode cX9_note 100 = .ok (.iconst 2, 1) := by decide +kernel
theorem dX9_note_101 : decode cX9_note 101 = .ok (.iadd, 1) := by decide +kernel
theorem dX9_note_102 : decode cX9_note 102 = .ok (.iload_n 3, 1) := by decide +kernel
theorem dX9_note_103 : decode cX9_note 103 = .ok (.iastore, 1) := by decide +kernel
theorem dX9_note_104 : decode cX9_note 104 = .ok (.aload_n 0, 1) := by decide +kernel
theorem dX9_note_105 : decode cX9_note 105 = .ok (.getfield 7, 3) := by decide +kernel
theorem dX9_note_108 : decode cX9_note 108 = .ok (.iload 5, 2) := by decide +kernel
theorem dX9_note_110 : decode cX9_note 110 = .ok (.iconst 3, 1) := by decide +kernel
theorem dX9_note_111 : decode cX9_note 111 = .ok (.iadd, 1) := by decide +kernel
theorem dX9_note_112 : decode cX9_note 112 = .ok (.iload 4, 2) := by decide +kernel
theorem dX9_note_114 : decode cX9_note 114 = .ok (.iastore, 1) := by decide +kernel
theorem dX9_note_115 : decode cX9_note 115 = .ok (.aload_n 0, 1) := by decide +kernel
theorem dX9_note_116 : decode cX9_note 116 = .ok (.getfield 7, 3) := by decide +kernel
theorem dX9_note_119 : decode cX9_note 119 = .ok (.iconst 1, 1) := by decide +kernel
theorem dX9_note_120 : decode cX9_note 120 = .ok (.dup2, 1) := by decide +kernel
theorem dX9_note_121 : decode cX9_note 121 = .ok (.iaload, 1) := by decide +kernel
theorem dX9_note_122 : decode cX9_note 122 = .ok (.iconst 1, 1) := by decide +kernel
theorem dX9_note_123 : decode cX9_note 123 = .ok (.iadd, 1) := by decide +kernel
theorem dX9_note_124 : decode cX9_note 124 = .ok (.iastore, 1) := by decide +kernel
theorem dX9_note_125 : decode cX9_note 125 = .ok (.aload_n 0, 1) := by decide +kernel
theorem dX9_note_126 : decode cX9_note 126 = .ok (.getfield 7, 3) := by decide +kernel
theorem dX9_note_129 : decode cX9_note 129 = .ok (.iconst 1, 1) := by decide +kernel
theorem dX9_note_130 : decode cX9_note 130 = .ok (.iaload, 1) := by decide +kernel
theorem dX9_note_131 : decode cX9_note 131 = .ok (.ireturn, 1) := by decide +kernel
theorem dX9_forget_0 : decode cX9_forget 0 = .ok (.aload_n 0, 1) := by decide +kernel
theorem dX9_forget_1 : decode cX9_forget 1 = .ok (.getfield 7, 3) := by decide +kernel
theorem dX9_forget_4 : decode cX9_forget 4 = .ok (.iconst 1, 1) := by decide +kernel
theorem dX9_forget_5 : decode cX9_forget 5 = .ok (.iaload, 1) := by decide +kernel
theorem dX9_forget_6 : decode cX9_forget 6 = .ok (.istore_n 1, 1) := by decide +kernel
theorem dX9_forget_7 : decode cX9_forget 7 = .ok (.aload_n 0, 1) := by decide +kernel
theorem dX9_forget_8 : decode cX9_forget 8 = .ok (.getfield 7, 3) := by decide +kernel
theorem dX9_forget_11 : decode cX9_forget 11 = .ok (.iconst 1, 1) := by decide +kernel
theorem dX9_forget_12 : decode cX9_forget 12 = .ok (.iconst 0, 1) := by decide +kernel
theorem dX9_forget_13 : decode cX9_forget 13 = .ok (.iastore, 1) := by decide +kernel
theorem dX9_forget_14 : decode cX9_forget 14 = .ok (.iload_n 1, 1) := by decide +kernel
theorem dX9_forget_15 : decode cX9_forget 15 = .ok (.ireturn, 1) := by decide +kernel
theorem dX9_kindsOf_0 : decode cX9_kindsOf 0 = .ok (.iconst 0, 1) := by decide +kernel
theorem dX9_kindsOf_1 : decode cX9_kindsOf 1 = .ok (.istore_n 2, 1) := by decide +kernel
theorem dX9_kindsOf_2 : decode cX9_kindsOf 2 = .ok (.iconst 0, 1) := by decide +kernel
theorem dX9_kindsOf_3 : decode cX9_kindsOf 3 = .ok (.istore_n 3, 1) := by decide +kernel
theorem dX9_kindsOf_4 : decode cX9_kindsOf 4 = .ok (.iload_n 3, 1) := by decide +kernel
theorem dX9_kindsOf_5 : decode cX9_kindsOf 5 = .ok (.bipush 6, 2) := by decide +kernel
theorem dX9_kindsOf_7 : decode cX9_kindsOf 7 = .ok (.if_icmp .ge 147, 3) := by decide +kernel
theorem dX9_kindsOf_10 : decode cX9_kindsOf 10 = .ok (.iconst 1, 1) := by decide +kernel
theorem dX9_kindsOf_11 : decode cX9_kindsOf 11 = .ok (.istore 4, 2) := by decide +kernel
theorem dX9_kindsOf_13 : decode cX9_kindsOf 13 = .ok (.iconst 0, 1) := by decide +kernel
theorem dX9_kindsOf_14 : decode cX9_kindsOf 14 = .ok (.istore 5, 2) := by decide +kernel
theorem dX9_kindsOf_16 : decode cX9_kindsOf 16 = .ok (.iload 5, 2) := by decide +kernel
theorem dX9_kindsOf_18 : decode cX9_kindsOf 18 = .ok (.aload_n 0, 1) := by decide +kernel
theorem dX9_kindsOf_19 : decode cX9_kindsOf 19 = .ok (.getfield 7, 3) := by decide +kernel
theorem dX9_kindsOf_22 : decode cX9_kindsOf 22 = .ok (.iconst 1, 1) := by decide +kernel
theorem dX9_kindsOf_23 : decode cX9_kindsOf 23 = .ok (.iaload, 1) := by decide +kernel
theorem dX9_kindsOf_24 : decode cX9_kindsOf 24 = .ok (.if_icmp .ge 109, 3) := by decide +kernel
theorem dX9_kindsOf_27 : decode cX9_kindsOf 27 = .ok (.bipush 54, 2) := by decide +kernel
theorem dX9_kindsOf_29 : decode cX9_kindsOf 29 = .ok (.iconst 4, 1) := by decide +kernel
theorem dX9_kindsOf_30 : decode cX9_kindsOf 30 = .ok (.iload 5, 2) := by decide +kernel
theorem dX9_kindsOf_32 : decode cX9_kindsOf 32 = .ok (.imul, 1) := by decide +kernel
theorem dX9_kindsOf_33 : decode cX9_kindsOf 33 = .ok (.iadd, 1) := by decide +kernel
theorem dX9_kindsOf_34 : decode cX9_kindsOf 34 = .ok (.istore 6, 2) := by decide +kernel
theorem dX9_kindsOf_36 : decode cX9_kindsOf 36 = .ok (.aload_n 0, 1) := by decide +kernel
theorem dX9_kindsOf_37 : decode cX9_kindsOf 37 = .ok (.getfield 7, 3) := by decide +kernel
theorem dX9_kindsOf_40 : decode cX9_kindsOf 40 = .ok (.iload 6, 2) := by decide +kernel
theorem dX9_kindsOf_42 : decode cX9_kindsOf 42 = .ok (.iconst 1, 1) := by decide +kernel
theorem dX9_kindsOf_43 : decode cX9_kindsOf 43 = .ok (.iadd, 1) := by decide +kernel
theorem dX9_kindsOf_44 : decode cX9_kindsOf 44 = .ok (.iaload, 1) := by decide +kernel
theorem dX9_kindsOf_45 : decode cX9_kindsOf 45 = .ok (.istore 7, 2) := by decide +kernel
theorem dX9_kindsOf_47 : decode cX9_kindsOf 47 = .ok (.iload_n 3, 1) := by decide +kernel
theorem dX9_kindsOf_48 : decode cX9_kindsOf 48 = .ok (.aload_n 0, 1) := by decide +kernel
theorem dX9_kindsOf_49 : decode cX9_kindsOf 49 = .ok (.getfield 7, 3) := by decide +kernel
theorem dX9_kindsOf_52 : decode cX9_kindsOf 52 = .ok (.bipush 26, 2) := by decide +kernel
theorem dX9_kindsOf_54 : decode cX9_kindsOf 54 = .ok (.iload_n 1, 1) := by decide +kernel
theorem dX9_kindsOf_55 : decode cX9_kindsOf 55 = .ok (.iadd, 1) := by decide +kernel
theorem dX9_kindsOf_56 : decode cX9_kindsOf 56 = .ok (.iaload, 1) := by decide +kernel
theorem dX9_kindsOf_57 : decode cX9_kindsOf 57 = .ok (.iload 7, 2) := by decide +kernel
theorem dX9_kindsOf_59 : decode cX9_kindsOf 59 = .ok (.invokestatic 93, 3) := by decide +kernel
theorem dX9_kindsOf_62 : decode cX9_kindsOf 62 = .ok (.aload_n 0, 1) := by decide +kernel
theorem dX9_kindsOf_63 : decode cX9_kindsOf 63 = .ok (.getfield 7, 3) := by decide +kernel
theorem dX9_kindsOf_66 : decode cX9_kindsOf 66 = .ok (.iload 6, 2) := by decide +kernel
theorem dX9_kindsOf_68 : decode cX9_kindsOf 68 = .ok (.iconst 2, 1) := by decide +kernel
theorem dX9_kindsOf_69 : decode cX9_kindsOf 69 = .ok (.iadd, 1) := by decide +kernel
theorem dX9_kindsOf_70 : decode cX9_kindsOf 70 = .ok (.iaload, 1) := by decide +kernel
theorem dX9_kindsOf_71 : decode cX9_kindsOf 71 = .ok (.if_icmp .ne 25, 3) := by decide +kernel
theorem dX9_kindsOf_74 : decode cX9_kindsOf 74 = .ok (.iload_n 3, 1) := by decide +kernel
theorem dX9_kindsOf_75 : decode cX9_kindsOf 75 = .ok (.iload 7, 2) := by decide +kernel
theorem dX9_kindsOf_77 : decode cX9_kindsOf 77 = .ok (.invokestatic 108, 3) := by decide +kernel
theorem dX9_kindsOf_80 : decode cX9_kindsOf 80 = .ok (.aload_n 0, 1) := by decide +kernel
theorem dX9_kindsOf_81 : decode cX9_kindsOf 81 = .ok (.getfield 7, 3) := by decide +kernel
theorem dX9_kindsOf_84 : decode cX9_kindsOf 84 = .ok (.iload 6, 2) := by decide +kernel
theorem dX9_kindsOf_86 : decode cX9_kindsOf 86 = .ok (.iconst 3, 1) := by decide +kernel
theorem dX9_kindsOf_87 : decode cX9_kindsOf 87 = .ok (.iadd, 1) := by decide +kernel
theorem dX9_kindsOf_88 : decode cX9_kindsOf 88 = .ok (.iaload, 1) := by decide +kernel
theorem dX9_kindsOf_89 : decode cX9_kindsOf 89 = .ok (.if_icmp .ne 7, 3) := by decide +kernel
theorem dX9_kindsOf_92 : decode cX9_kindsOf 92 = .ok (.iconst 1, 1) := by decide +kernel
theorem dX9_kindsOf_93 : decode cX9_kindsOf 93 = .ok (.goto 4, 3) := by decide +kernel
theorem dX9_kindsOf_96 : decode cX9_kindsOf 96 = .ok (.iconst 0, 1) := by decide +kernel
theorem dX9_kindsOf_97 : decode cX9_kindsOf 97 = .ok (.istore 8, 2) := by decide +kernel
theorem dX9_kindsOf_99 : decode cX9_kindsOf 99 = .ok (.iload 4, 2) := by decide +kernel
theorem dX9_kindsOf_101 : decode cX9_kindsOf 101 = .ok (.ifCond .eq 23, 3) := by decide +kernel
theorem dX9_kindsOf_104 : decode cX9_kindsOf 104 = .ok (.aload_n 0, 1) := by decide +kernel
theorem dX9_kindsOf_105 : decode cX9_kindsOf 105 = .ok (.getfield 7, 3) := by decide +kernel
theorem dX9_kindsOf_108 : decode cX9_kindsOf 108 = .ok (.iload 6, 2) := by decide +kernel
theorem dX9_kindsOf_110 : decode cX9_kindsOf 110 = .ok (.iaload, 1) := by decide +kernel
theorem dX9_kindsOf_111 : decode cX9_kindsOf 111 = .ok (.iload_n 1, 1) := by decide +kernel
theorem dX9_kindsOf_112 : decode cX9_kindsOf 112 = .ok (.if_icmp .ne 8, 3) := by decide +kernel
theorem dX9_kindsOf_115 : decode cX9_kindsOf 115 = .ok (.iload 8, 2) := by decide +kernel
theorem dX9_kindsOf_117 : decode cX9_kindsOf 117 = .ok (.ifCond .eq 7, 3) := by decide +kernel
theorem dX9_kindsOf_120 : decode cX9_kindsOf 120 = .ok (.iconst 1, 1) := by decide +kernel
theorem dX9_kindsOf_121 : decode cX9_kindsOf 121 = .ok (.goto 4, 3) := by decide +kernel
theorem dX9_kindsOf_124 : decode cX9_kindsOf 124 = .ok (.iconst 0, 1) := by decide +kernel
theorem dX9_kindsOf_125 : decode cX9_kindsOf 125 = .ok (.istore 4, 2) := by decide +kernel
theorem dX9_kindsOf_127 : decode cX9_kindsOf 127 = .ok (.iinc 5 1, 3) := by decide +kernel
theorem dX9_kindsOf_130 : decode cX9_kindsOf 130 = .ok (.goto (-114), 3) := by decide +kernel
theorem dX9_kindsOf_133 : decode cX9_kindsOf 133 = .ok (.iload_n 2, 1) := by decide +kernel
theorem dX9_kindsOf_134 : decode cX9_kindsOf 134 = .ok (.iload 4, 2) := by decide +kernel
theorem dX9_kindsOf_136 : decode cX9_kindsOf 136 = .ok (.ifCond .eq 9, 3) := by decide +kernel
theorem dX9_kindsOf_139 : decode cX9_kindsOf 139 = .ok (.iconst 1, 1) := by decide +kernel
theorem dX9_kindsOf_140 : decode cX9_kindsOf 140 = .ok (.iload_n 3, 1) := by decide +kernel
theorem dX9_kindsOf_141 : decode cX9_kindsOf 141 = .ok (.ishl, 1) := by decide +kernel
theorem dX9_kindsOf_142 : decode cX9_kindsOf 142 = .ok (.goto 4, 3) := by decide +kernel
theorem dX9_kindsOf_145 : decode cX9_kindsOf 145 = .ok (.iconst 0, 1) := by decide +kernel
theorem dX9_kindsOf_146 : decode cX9_kindsOf 146 = .ok (.ior, 1) := by decide +kernel
theorem dX9_kindsOf_147 : decode cX9_kindsOf 147 = .ok (.istore_n 2, 1) := by decide +kernel
theorem dX9_kindsOf_148 : decode cX9_kindsOf 148 = .ok (.iinc 3 1, 3) := by decide +kernel
theorem dX9_kindsOf_151 : decode cX9_kindsOf 151 = .ok (.goto (-147), 3) := by decide +kernel
theorem dX9_kindsOf_154 : decode cX9_kindsOf 154 = .ok (.iload_n 2, 1) := by decide +kernel
theorem dX9_kindsOf_155 : decode cX9_kindsOf 155 = .ok (.ireturn, 1) := by decide +kernel
theorem dX9_is_0 : decode cX9_is 0 = .ok (.aload_n 0, 1) := by decide +kernel
theorem dX9_is_1 : decode cX9_is 1 = .ok (.iload_n 1, 1) := by decide +kernel
theorem dX9_is_2 : decode cX9_is 2 = .ok (.invokevirtual 83, 3) := by decide +kernel
theorem dX9_is_5 : decode cX9_is 5 = .ok (.ifCond .eq 11, 3) := by decide +kernel
theorem dX9_is_8 : decode cX9_is 8 = .ok (.aload_n 0, 1) := by decide +kernel
theorem dX9_is_9 : decode cX9_is 9 = .ok (.iload_n 1, 1) := by decide +kernel
theorem dX9_is_10 : decode cX9_is 10 = .ok (.invokevirtual 151, 3) := by decide +kernel
theorem dX9_is_13 : decode cX9_is 13 = .ok (.goto 9, 3) := by decide +kernel
theorem dX9_is_16 : decode cX9_is 16 = .ok (.aload_n 0, 1) := by decide +kernel
theorem dX9_is_17 : decode cX9_is 17 = .ok (.bipush (-2), 2) := by decide +kernel
theorem dX9_is_19 : decode cX9_is 19 = .ok (.invokevirtual 64, 3) := by decide +kernel
theorem dX9_is_22 : decode cX9_is 22 = .ok (.ireturn, 1) := by decide +kernel
theorem dX9_areAlike_0 : decode cX9_areAlike 0 = .ok (.iload_n 0, 1) := by decide +kernel
theorem dX9_areAlike_1 : decode cX9_areAlike 1 = .ok (.iload_n 2, 1) := by decide +kernel
theorem dX9_areAlike_2 : decode cX9_areAlike 2 = .ok (.iload_n 3, 1) := by decide +kernel
theorem dX9_areAlike_3 : decode cX9_areAlike 3 = .ok (.invokestatic 93, 3) := by decide +kernel
theorem dX9_areAlike_6 : decode cX9_areAlike 6 = .ok (.iload_n 1, 1) := by decide +kernel
theorem dX9_areAlike_7 : decode cX9_areAlike 7 = .ok (.iload_n 2, 1) := by decide +kernel
theorem dX9_areAlike_8 : decode cX9_areAlike 8 = .ok (.iload_n 3, 1) := by decide +kernel
theorem dX9_areAlike_9 : decode cX9_areAlike 9 = .ok (.invokestatic 93, 3) := by decide +kernel
theorem dX9_areAlike_12 : decode cX9_areAlike 12 = .ok (.if_icmp .ne 20, 3) := by decide +kernel
theorem dX9_areAlike_15 : decode cX9_areAlike 15 = .ok (.iload_n 0, 1) := by decide +kernel
theorem dX9_areAlike_16 : decode cX9_areAlike 16 = .ok (.iload_n 3, 1) := by decide +kernel
theorem dX9_areAlike_17 : decode cX9_areAlike 17 = .ok (.invokestatic 108, 3) := by decide +kernel
theorem dX9_areAlike_20 : decode cX9_areAlike 20 = .ok (.iload_n 1, 1) := by decide +kernel
theorem dX9_areAlike_21 : decode cX9_areAlike 21 = .ok (.iload_n 3, 1) := by decide +kernel
theorem dX9_areAlike_22 : decode cX9_areAlike 22 = .ok (.invokestatic 108, 3) := by decide +kernel
theorem dX9_areAlike_25 : decode cX9_areAlike 25 = .ok (.if_icmp .ne 7, 3) := by decide +kernel
theorem dX9_areAlike_28 : decode cX9_areAlike 28 = .ok (.iconst 1, 1) := by decide +kernel
theorem dX9_areAlike_29 : decode cX9_areAlike 29 = .ok (.goto 4, 3) := by decide +kernel
theorem dX9_areAlike_32 : decode cX9_areAlike 32 = .ok (.iconst 0, 1) := by decide +kernel
theorem dX9_areAlike_33 : decode cX9_areAlike 33 = .ok (.ireturn, 1) := by decide +kernel
theorem dX9_look_0 : decode cX9_look 0 = .ok (.aload_n 0, 1) := by decide +kernel
theorem dX9_look_1 : decode cX9_look 1 = .ok (.iload_n 1, 1) := by decide +kernel
theorem dX9_look_2 : decode cX9_look 2 = .ok (.invokevirtual 83, 3) := by decide +kernel
theorem dX9_look_5 : decode cX9_look 5 = .ok (.ifCond .ne 10, 3) := by decide +kernel
theorem dX9_look_8 : decode cX9_look 8 = .ok (.aload_n 0, 1) := by decide +kernel
theorem dX9_look_9 : decode cX9_look 9 = .ok (.bipush (-2), 2) := by decide +kernel
theorem dX9_look_11 : decode cX9_look 11 = .ok (.invokevirtual 64, 3) := by decide +kernel
theorem dX9_look_14 : decode cX9_look 14 = .ok (.ireturn, 1) := by decide +kernel
theorem dX9_look_15 : decode cX9_look 15 = .ok (.aload_n 0, 1) := by decide +kernel
theorem dX9_look_16 : decode cX9_look 16 = .ok (.iload_n 1, 1) := by decide +kernel
theorem dX9_look_17 : decode cX9_look 17 = .ok (.invokevirtual 151, 3) := by decide +kernel
theorem dX9_look_20 : decode cX9_look 20 = .ok (.istore_n 2, 1) := by decide +kernel
theorem dX9_look_21 : decode cX9_look 21 = .ok (.iconst (-1), 1) := by decide +kernel
theorem dX9_look_22 : decode cX9_look 22 = .ok (.istore_n 3, 1) := by decide +kernel
theorem dX9_look_23 : decode cX9_look 23 = .ok (.ldc 154, 2) := by decide +kernel
theorem dX9_look_25 : decode cX9_look 25 = .ok (.istore 4, 2) := by decide +kernel
theorem dX9_look_27 : decode cX9_look 27 = .ok (.iconst 0, 1) := by decide +kernel
theorem dX9_look_28 : decode cX9_look 28 = .ok (.istore 5, 2) := by decide +kernel
theorem dX9_look_30 : decode cX9_look 30 = .ok (.iload 5, 2) := by decide +kernel
theorem dX9_look_32 : decode cX9_look 32 = .ok (.bipush 10, 2) := by decide +kernel
theorem dX9_look_34 : decode cX9_look 34 = .ok (.if_icmp .ge 146, 3) := by decide +kernel
theorem dX9_look_37 : decode cX9_look 37 = .ok (.iload_n 2, 1) := by decide +kernel
theorem dX9_look_38 : decode cX9_look 38 = .ok (.ifCond .le 142, 3) := by decide +kernel
theorem dX9_look_41 : decode cX9_look 41 = .ok (.iconst 0, 1) := by decide +kernel
theorem dX9_look_42 : decode cX9_look 42 = .ok (.istore 6, 2) := by decide +kernel
theorem dX9_look_44 : decode cX9_look 44 = .ok (.iconst 0, 1) := by decide +kernel
theorem dX9_look_45 : decode cX9_look 45 = .ok (.istore 7, 2) := by decide +kernel
theorem dX9_look_47 : decode cX9_look 47 = .ok (.iload 7, 2) := by decide +kernel
theorem dX9_look_49 : decode cX9_look 49 = .ok (.bipush 6, 2) := by decide +kernel
theorem dX9_look_51 : decode cX9_look 51 = .ok (.if_icmp .ge 93, 3) := by decide +kernel
theorem dX9_look_54 : decode cX9_look 54 = .ok (.iconst 0, 1) := by decide +kernel
theorem dX9_look_55 : decode cX9_look 55 = .ok (.istore 8, 2) := by decide +kernel
theorem dX9_look_57 : decode cX9_look 57 = .ok (.iconst 0, 1) := by decide +kernel
theorem dX9_look_58 : decode cX9_look 58 = .ok (.istore 9, 2) := by decide +kernel
theorem dX9_look_60 : decode cX9_look 60 = .ok (.iload 9, 2) := by decide +kernel
theorem dX9_look_62 : decode cX9_look 62 = .ok (.bipush 6, 2) := by decide +kernel
theorem dX9_look_64 : decode cX9_look 64 = .ok (.if_icmp .ge 58, 3) := by decide +kernel
theorem dX9_look_67 : decode cX9_look 67 = .ok (.iload_n 2, 1) := by decide +kernel
theorem dX9_look_68 : decode cX9_look 68 = .ok (.iload 7, 2) := by decide +kernel
theorem dX9_look_70 : decode cX9_look 70 = .ok (.invokestatic 97, 3) := by decide +kernel
theorem dX9_look_73 : decode cX9_look 73 = .ok (.ifCond .eq 49, 3) := by decide +kernel
theorem dX9_look_76 : decode cX9_look 76 = .ok (.iload 8, 2) := by decide +kernel
theorem dX9_look_78 : decode cX9_look 78 = .ok (.iload_n 2, 1) := by decide +kernel
theorem dX9_look_79 : decode cX9_look 79 = .ok (.iload 9, 2) := by decide +kernel
theorem dX9_look_81 : decode cX9_look 81 = .ok (.invokestatic 97, 3) := by decide +kernel
theorem dX9_look_84 : decode cX9_look 84 = .ok (.ifCond .eq 28, 3) := by decide +kernel
theorem dX9_look_87 : decode cX9_look 87 = .ok (.iload 7, 2) := by decide +kernel
theorem dX9_look_89 : decode cX9_look 89 = .ok (.iload 9, 2) := by decide +kernel
theorem dX9_look_91 : decode cX9_look 91 = .ok (.aload_n 0, 1) := by decide +kernel
theorem dX9_look_92 : decode cX9_look 92 = .ok (.getfield 7, 3) := by decide +kernel
theorem dX9_look_95 : decode cX9_look 95 = .ok (.bipush 26, 2) := by decide +kernel
theorem dX9_look_97 : decode cX9_look 97 = .ok (.iload_n 1, 1) := by decide +kernel
theorem dX9_look_98 : decode cX9_look 98 = .ok (.iadd, 1) := by decide +kernel
theorem dX9_look_99 : decode cX9_look 99 = .ok (.iaload, 1) := by decide +kernel
theorem dX9_look_100 : decode cX9_look 100 = .ok (.iload 5, 2) := by decide +kernel
theorem dX9_look_102 : decode cX9_look 102 = .ok (.invokestatic 155, 3) := by decide +kernel
theorem dX9_look_105 : decode cX9_look 105 = .ok (.ifCond .eq 7, 3) := by decide +kernel
theorem dX9_look_108 : decode cX9_look 108 = .ok (.iconst 1, 1) := by decide +kernel
theorem dX9_look_109 : decode cX9_look 109 = .ok (.goto 4, 3) := by decide +kernel
theorem dX9_look_112 : decode cX9_look 112 = .ok (.iconst 0, 1) := by decide +kernel
theorem dX9_look_113 : decode cX9_look 113 = .ok (.iadd, 1) := by decide +kernel
theorem dX9_look_114 : decode cX9_look 114 = .ok (.istore 8, 2) := by decide +kernel
theorem dX9_look_116 : decode cX9_look 116 = .ok (.iinc 9 1, 3) := by decide +kernel
theorem dX9_look_119 : decode cX9_look 119 = .ok (.goto (-59), 3) := by decide +kernel
theorem dX9_look_122 : decode cX9_look 122 = .ok (.iload 8, 2) := by decide +kernel
theorem dX9_look_124 : decode cX9_look 124 = .ok (.iload 6, 2) := by decide +kernel
theorem dX9_look_126 : decode cX9_look 126 = .ok (.if_icmp .le 8, 3) := by decide +kernel
theorem dX9_look_129 : decode cX9_look 129 = .ok (.iload 8, 2) := by decide +kernel
theorem dX9_look_131 : decode cX9_look 131 = .ok (.goto 5, 3) := by decide +kernel
theorem dX9_look_134 : decode cX9_look 134 = .ok (.iload 6, 2) := by decide +kernel
theorem dX9_look_136 : decode cX9_look 136 = .ok (.istore 6, 2) := by decide +kernel
theorem dX9_look_138 : decode cX9_look 138 = .ok (.iinc 7 1, 3) := by decide +kernel
theorem dX9_look_141 : decode cX9_look 141 = .ok (.goto (-94), 3) := by decide +kernel
theorem dX9_look_144 : decode cX9_look 144 = .ok (.iload 6, 2) := by decide +kernel
theorem dX9_look_146 : decode cX9_look 146 = .ok (.iload 4, 2) := by decide +kernel
theorem dX9_look_148 : decode cX9_look 148 = .ok (.if_icmp .ge 8, 3) := by decide +kernel
theorem dX9_look_151 : decode cX9_look 151 = .ok (.iload 5, 2) := by decide +kernel
theorem dX9_look_153 : decode cX9_look 153 = .ok (.goto 4, 3) := by decide +kernel
theorem dX9_look_156 : decode cX9_look 156 = .ok (.iload_n 3, 1) := by decide +kernel
theorem dX9_look_157 : decode cX9_look 157 = .ok (.istore_n 3, 1) := by decide +kernel
theorem dX9_look_158 : decode cX9_look 158 = .ok (.iload 6, 2) := by decide +kernel
theorem dX9_look_160 : decode cX9_look 160 = .ok (.iload 4, 2) := by decide +kernel
theorem dX9_look_162 : decode cX9_look 162 = .ok (.if_icmp .ge 8, 3) := by decide +kernel
theorem dX9_look_165 : decode cX9_look 165 = .ok (.iload 6, 2) := by decide +kernel
theorem dX9_look_167 : decode cX9_look 167 = .ok (.goto 5, 3) := by decide +kernel
theorem dX9_look_170 : decode cX9_look 170 = .ok (.iload 4, 2) := by decide +kernel
theorem dX9_look_172 : decode cX9_look 172 = .ok (.istore 4, 2) := by decide +kernel
theorem dX9_look_174 : decode cX9_look 174 = .ok (.iinc 5 1, 3) := by decide +kernel
theorem dX9_look_177 : decode cX9_look 177 = .ok (.goto (-147), 3) := by decide +kernel
theorem dX9_look_180 : decode cX9_look 180 = .ok (.iload_n 3, 1) := by decide +kernel
theorem dX9_look_181 : decode cX9_look 181 = .ok (.ireturn, 1) := by decide +kernel
theorem dX9_fraction_0 : decode cX9_fraction 0 = .ok (.lload_n 1, 1) := by decide +kernel
theorem dX9_fraction_1 : decode cX9_fraction 1 = .ok (.lstore 5, 2) := by decide +kernel
theorem dX9_fraction_3 : decode cX9_fraction 3 = .ok (.lload_n 3, 1) := by decide +kernel
theorem dX9_fraction_4 : decode cX9_fraction 4 = .ok (.lstore 7, 2) := by decide +kernel
theorem dX9_fraction_6 : decode cX9_fraction 6 = .ok (.lload 7, 2) := by decide +kernel
theorem dX9_fraction_8 : decode cX9_fraction 8 = .ok (.lconst 0, 1) := by decide +kernel
theorem dX9_fraction_9 : decode cX9_fraction 9 = .ok (.lcmp, 1) := by decide +kernel
theorem dX9_fraction_10 : decode cX9_fraction 10 = .ok (.ifCond .eq 21, 3) := by decide +kernel
theorem dX9_fraction_13 : decode cX9_fraction 13 = .ok (.lload 5, 2) := by decide +kernel
theorem dX9_fraction_15 : decode cX9_fraction 15 = .ok (.lload 7, 2) := by decide +kernel
theorem dX9_fraction_17 : decode cX9_fraction 17 = .ok (.lrem, 1) := by decide +kernel
theorem dX9_fraction_18 : decode cX9_fraction 18 = .ok (.lstore 9, 2) := by decide +kernel
theorem dX9_fraction_20 : decode cX9_fraction 20 = .ok (.lload 7, 2) := by decide +kernel
theorem dX9_fraction_22 : decode cX9_fraction 22 = .ok (.lstore 5, 2) := by decide +kernel
theorem dX9_fraction_24 : decode cX9_fraction 24 = .ok (.lload 9, 2) := by decide +kernel
theorem dX9_fraction_26 : decode cX9_fraction 26 = .ok (.lstore 7, 2) := by decide +kernel
theorem dX9_fraction_28 : decode cX9_fraction 28 = .ok (.goto (-22), 3) := by decide +kernel
theorem dX9_fraction_31 : decode cX9_fraction 31 = .ok (.aload_n 0, 1) := by decide +kernel
theorem dX9_fraction_32 : decode cX9_fraction 32 = .ok (.lload_n 1, 1) := by decide +kernel
theorem dX9_fraction_33 : decode cX9_fraction 33 = .ok (.lload 5, 2) := by decide +kernel
theorem dX9_fraction_35 : decode cX9_fraction 35 = .ok (.ldiv, 1) := by decide +kernel
theorem dX9_fraction_36 : decode cX9_fraction 36 = .ok (.putfield 159, 3) := by decide +kernel
theorem dX9_fraction_39 : decode cX9_fraction 39 = .ok (.aload_n 0, 1) := by decide +kernel
theorem dX9_fraction_40 : decode cX9_fraction 40 = .ok (.lload_n 3, 1) := by decide +kernel
theorem dX9_fraction_41 : decode cX9_fraction 41 = .ok (.lload 5, 2) := by decide +kernel
theorem dX9_fraction_43 : decode cX9_fraction 43 = .ok (.ldiv, 1) := by decide +kernel
theorem dX9_fraction_44 : decode cX9_fraction 44 = .ok (.putfield 23, 3) := by decide +kernel
theorem dX9_fraction_47 : decode cX9_fraction 47 = .ok (.return_, 1) := by decide +kernel
theorem dX9_fare_0 : decode cX9_fare 0 = .ok (.iload_n 1, 1) := by decide +kernel
theorem dX9_fare_1 : decode cX9_fare 1 = .ok (.i2l, 1) := by decide +kernel
theorem dX9_fare_2 : decode cX9_fare 2 = .ok (.lconst 1, 1) := by decide +kernel
theorem dX9_fare_3 : decode cX9_fare 3 = .ok (.ldc2_w 162, 3) := by decide +kernel
theorem dX9_fare_6 : decode cX9_fare 6 = .ok (.invokestatic 56, 3) := by decide +kernel
theorem dX9_fare_9 : decode cX9_fare 9 = .ok (.ifCond .ne 10, 3) := by decide +kernel
theorem dX9_fare_12 : decode cX9_fare 12 = .ok (.aload_n 0, 1) := by decide +kernel
theorem dX9_fare_13 : decode cX9_fare 13 = .ok (.bipush (-2), 2) := by decide +kernel
theorem dX9_fare_15 : decode cX9_fare 15 = .ok (.invokevirtual 64, 3) := by decide +kernel
theorem dX9_fare_18 : decode cX9_fare 18 = .ok (.ireturn, 1) := by decide +kernel
theorem dX9_fare_19 : decode cX9_fare 19 = .ok (.aload_n 0, 1) := by decide +kernel
theorem dX9_fare_20 : decode cX9_fare 20 = .ok (.invokevirtual 90, 3) := by decide +kernel
theorem dX9_fare_23 : decode cX9_fare 23 = .ok (.aload_n 0, 1) := by decide +kernel
theorem dX9_fare_24 : decode cX9_fare 24 = .ok (.bipush 10, 2) := by decide +kernel
theorem dX9_fare_26 : decode cX9_fare 26 = .ok (.invokevirtual 125, 3) := by decide +kernel
theorem dX9_fare_29 : decode cX9_fare 29 = .ok (.aload_n 0, 1) := by decide +kernel
theorem dX9_fare_30 : decode cX9_fare 30 = .ok (.aload_n 0, 1) := by decide +kernel
theorem dX9_fare_31 : decode cX9_fare 31 = .ok (.getfield 27, 3) := by decide +kernel
theorem dX9_fare_34 : decode cX9_fare 34 = .ok (.bipush 7, 2) := by decide +kernel
theorem dX9_fare_36 : decode cX9_fare 36 = .ok (.iaload, 1) := by decide +kernel
theorem dX9_fare_37 : decode cX9_fare 37 = .ok (.i2l, 1) := by decide +kernel
theorem dX9_fare_38 : decode cX9_fare 38 = .ok (.iload_n 1, 1) := by decide +kernel
theorem dX9_fare_39 : decode cX9_fare 39 = .ok (.i2l, 1) := by decide +kernel
theorem dX9_fare_40 : decode cX9_fare 40 = .ok (.invokevirtual 164, 3) := by decide +kernel
theorem dX9_fare_43 : decode cX9_fare 43 = .ok (.iconst 1, 1) := by decide +kernel
theorem dX9_fare_44 : decode cX9_fare 44 = .ok (.ireturn, 1) := by decide +kernel
theorem dX9_layPair_0 : decode cX9_layPair 0 = .ok (.aload_n 0, 1) := by decide +kernel
theorem dX9_layPair_1 : decode cX9_layPair 1 = .ok (.invokevirtual 141, 3) := by decide +kernel
theorem dX9_layPair_4 : decode cX9_layPair 4 = .ok (.aload_n 0, 1) := by decide +kernel
theorem dX9_layPair_5 : decode cX9_layPair 5 = .ok (.getfield 27, 3) := by decide +kernel
theorem dX9_layPair_8 : decode cX9_layPair 8 = .ok (.bipush 33, 2) := by decide +kernel
theorem dX9_layPair_10 : decode cX9_layPair 10 = .ok (.iload_n 1, 1) := by decide +kernel
theorem dX9_layPair_11 : decode cX9_layPair 11 = .ok (.iadd, 1) := by decide +kernel
theorem dX9_layPair_12 : decode cX9_layPair 12 = .ok (.iload_n 3, 1) := by decide +kernel
theorem dX9_layPair_13 : decode cX9_layPair 13 = .ok (.bipush 10, 2) := by decide +kernel
theorem dX9_layPair_15 : decode cX9_layPair 15 = .ok (.idiv, 1) := by decide +kernel
theorem dX9_layPair_16 : decode cX9_layPair 16 = .ok (.iastore, 1) := by decide +kernel
theorem dX9_layPair_17 : decode cX9_layPair 17 = .ok (.aload_n 0, 1) := by decide +kernel
theorem dX9_layPair_18 : decode cX9_layPair 18 = .ok (.getfield 27, 3) := by decide +kernel
theorem dX9_layPair_21 : decode cX9_layPair 21 = .ok (.bipush 33, 2) := by decide +kernel
theorem dX9_layPair_23 : decode cX9_layPair 23 = .ok (.iload_n 2, 1) := by decide +kernel
theorem dX9_layPair_24 : decode cX9_layPair 24 = .ok (.iadd, 1) := by decide +kernel
theorem dX9_layPair_25 : decode cX9_layPair 25 = .ok (.iload_n 3, 1) := by decide +kernel
theorem dX9_layPair_26 : decode cX9_layPair 26 = .ok (.bipush 10, 2) := by decide +kernel
theorem dX9_layPair_28 : decode cX9_layPair 28 = .ok (.irem, 1) := by decide +kernel
theorem dX9_layPair_29 : decode cX9_layPair 29 = .ok (.iastore, 1) := by decide +kernel
theorem dX9_layPair_30 : decode cX9_layPair 30 = .ok (.aload_n 0, 1) := by decide +kernel
theorem dX9_layPair_31 : decode cX9_layPair 31 = .ok (.getfield 33, 3) := by decide +kernel
theorem dX9_layPair_34 : decode cX9_layPair 34 = .ok (.iload_n 3, 1) := by decide +kernel
theorem dX9_layPair_35 : decode cX9_layPair 35 = .ok (.iconst 0, 1) := by decide +kernel
theorem dX9_layPair_36 : decode cX9_layPair 36 = .ok (.iastore, 1) := by decide +kernel
theorem dX9_layPair_37 : decode cX9_layPair 37 = .ok (.aload_n 0, 1) := by decide +kernel
theorem dX9_layPair_38 : decode cX9_layPair 38 = .ok (.getfield 36, 3) := by decide +kernel
theorem dX9_layPair_41 : decode cX9_layPair 41 = .ok (.iload_n 3, 1) := by decide +kernel
theorem dX9_layPair_42 : decode cX9_layPair 42 = .ok (.iconst 0, 1) := by decide +kernel
theorem dX9_layPair_43 : decode cX9_layPair 43 = .ok (.iastore, 1) := by decide +kernel
theorem dX9_layPair_44 : decode cX9_layPair 44 = .ok (.aload_n 0, 1) := by decide +kernel
theorem dX9_layPair_45 : decode cX9_layPair 45 = .ok (.getfield 27, 3) := by decide +kernel
theorem dX9_layPair_48 : decode cX9_layPair 48 = .ok (.iconst 3, 1) := by decide +kernel
theorem dX9_layPair_49 : decode cX9_layPair 49 = .ok (.iaload, 1) := by decide +kernel
theorem dX9_layPair_50 : decode cX9_layPair 50 = .ok (.bipush 10, 2) := by decide +kernel
theorem dX9_layPair_52 : decode cX9_layPair 52 = .ok (.if_icmp .ge 48, 3) := by decide +kernel
theorem dX9_layPair_55 : decode cX9_layPair 55 = .ok (.aload_n 0, 1) := by decide +kernel
theorem dX9_layPair_56 : decode cX9_layPair 56 = .ok (.invokevirtual 114, 3) := by decide +kernel
theorem dX9_layPair_59 : decode cX9_layPair 59 = .ok (.aload_n 0, 1) := by decide +kernel
theorem dX9_layPair_60 : decode cX9_layPair 60 = .ok (.getfield 33, 3) := by decide +kernel
theorem dX9_layPair_63 : decode cX9_layPair 63 = .ok (.iload_n 3, 1) := by decide +kernel
theorem dX9_layPair_64 : decode cX9_layPair 64 = .ok (.dup2, 1) := by decide +kernel
theorem dX9_layPair_65 : decode cX9_layPair 65 = .ok (.iaload, 1) := by decide +kernel
theorem dX9_layPair_66 : decode cX9_layPair 66 = .ok (.aload_n 0, 1) := by decide +kernel
theorem dX9_layPair_67 : decode cX9_layPair 67 = .ok (.getfield 27, 3) := by decide +kernel
theorem dX9_layPair_70 : decode cX9_layPair 70 = .ok (.iconst 4, 1) := by decide +kernel
theorem dX9_layPair_71 : decode cX9_layPair 71 = .ok (.iaload, 1) := by decide +kernel
theorem dX9_layPair_72 : decode cX9_layPair 72 = .ok (.iload_n 1, 1) := by decide +kernel
theorem dX9_layPair_73 : decode cX9_layPair 73 = .ok (.ishr, 1) := by decide +kernel
theorem dX9_layPair_74 : decode cX9_layPair 74 = .ok (.iconst 1, 1) := by decide +kernel
theorem dX9_layPair_75 : decode cX9_layPair 75 = .ok (.iand, 1) := by decide +kernel
theorem dX9_layPair_76 : decode cX9_layPair 76 = .ok (.iadd, 1) := by decide +kernel
theorem dX9_layPair_77 : decode cX9_layPair 77 = .ok (.iastore, 1) := by decide +kernel
theorem dX9_layPair_78 : decode cX9_layPair 78 = .ok (.aload_n 0, 1) := by decide +kernel
theorem dX9_layPair_79 : decode cX9_layPair 79 = .ok (.getfield 36, 3) := by decide +kernel
theorem dX9_layPair_82 : decode cX9_layPair 82 = .ok (.iload_n 3, 1) := by decide +kernel
theorem dX9_layPair_83 : decode cX9_layPair 83 = .ok (.dup2, 1) := by decide +kernel
theorem dX9_layPair_84 : decode cX9_layPair 84 = .ok (.iaload, 1) := by decide +kernel
theorem dX9_layPair_85 : decode cX9_layPair 85 = .ok (.aload_n 0, 1) := by decide +kernel
theorem dX9_layPair_86 : decode cX9_layPair 86 = .ok (.getfield 27, 3) := by decide +kernel
theorem dX9_layPair_89 : decode cX9_layPair 89 = .ok (.iconst 4, 1) := by decide +kernel
theorem dX9_layPair_90 : decode cX9_layPair 90 = .ok (.iaload, 1) := by decide +kernel
theorem dX9_layPair_91 : decode cX9_layPair 91 = .ok (.iload_n 2, 1) := by decide +kernel
theorem dX9_layPair_92 : decode cX9_layPair 92 = .ok (.ishr, 1) := by decide +kernel
theorem dX9_layPair_93 : decode cX9_layPair 93 = .ok (.iconst 1, 1) := by decide +kernel
theorem dX9_layPair_94 : decode cX9_layPair 94 = .ok (.iand, 1) := by decide +kernel
theorem dX9_layPair_95 : decode cX9_layPair 95 = .ok (.iadd, 1) := by decide +kernel
theorem dX9_layPair_96 : decode cX9_layPair 96 = .ok (.iastore, 1) := by decide +kernel
theorem dX9_layPair_97 : decode cX9_layPair 97 = .ok (.goto (-53), 3) := by decide +kernel
theorem dX9_layPair_100 : decode cX9_layPair 100 = .ok (.return_, 1) := by decide +kernel
theorem dX9_isPair_0 : decode cX9_isPair 0 = .ok (.iload_n 3, 1) := by decide +kernel
theorem dX9_isPair_1 : decode cX9_isPair 1 = .ok (.bipush 10, 2) := by decide +kernel
theorem dX9_isPair_3 : decode cX9_isPair 3 = .ok (.idiv, 1) := by decide +kernel
theorem dX9_isPair_4 : decode cX9_isPair 4 = .ok (.aload_n 0, 1) := by decide +kernel
theorem dX9_isPair_5 : decode cX9_isPair 5 = .ok (.getfield 7, 3) := by decide +kernel
theorem dX9_isPair_8 : decode cX9_isPair 8 = .ok (.bipush 40, 2) := by decide +kernel
theorem dX9_isPair_10 : decode cX9_isPair 10 = .ok (.iload_n 1, 1) := by decide +kernel
theorem dX9_isPair_11 : decode cX9_isPair 11 = .ok (.iadd, 1) := by decide +kernel
theorem dX9_isPair_12 : decode cX9_isPair 12 = .ok (.iaload, 1) := by decide +kernel
theorem dX9_isPair_13 : decode cX9_isPair 13 = .ok (.if_icmp .ge 23, 3) := by decide +kernel
theorem dX9_isPair_16 : decode cX9_isPair 16 = .ok (.iload_n 3, 1) := by decide +kernel
theorem dX9_isPair_17 : decode cX9_isPair 17 = .ok (.bipush 10, 2) := by decide +kernel
theorem dX9_isPair_19 : decode cX9_isPair 19 = .ok (.irem, 1) := by decide +kernel
theorem dX9_isPair_20 : decode cX9_isPair 20 = .ok (.aload_n 0, 1) := by decide +kernel
theorem dX9_isPair_21 : decode cX9_isPair 21 = .ok (.getfield 7, 3) := by decide +kernel
theorem dX9_isPair_24 : decode cX9_isPair 24 = .ok (.bipush 40, 2) := by decide +kernel
theorem dX9_isPair_26 : decode cX9_isPair 26 = .ok (.iload_n 2, 1) := by decide +kernel
theorem dX9_isPair_27 : decode cX9_isPair 27 = .ok (.iadd, 1) := by decide +kernel
theorem dX9_isPair_28 : decode cX9_isPair 28 = .ok (.iaload, 1) := by decide +kernel
theorem dX9_isPair_29 : decode cX9_isPair 29 = .ok (.if_icmp .ge 7, 3) := by decide +kernel
theorem dX9_isPair_32 : decode cX9_isPair 32 = .ok (.iconst 1, 1) := by decide +kernel
theorem dX9_isPair_33 : decode cX9_isPair 33 = .ok (.goto 4, 3) := by decide +kernel
theorem dX9_isPair_36 : decode cX9_isPair 36 = .ok (.iconst 0, 1) := by decide +kernel
theorem dX9_isPair_37 : decode cX9_isPair 37 = .ok (.ireturn, 1) := by decide +kernel
theorem dX9_rests_0 : decode cX9_rests 0 = .ok (.iconst 1, 1) := by decide +kernel
theorem dX9_rests_1 : decode cX9_rests 1 = .ok (.istore 4, 2) := by decide +kernel
theorem dX9_rests_3 : decode cX9_rests 3 = .ok (.iconst 0, 1) := by decide +kernel
theorem dX9_rests_4 : decode cX9_rests 4 = .ok (.istore 5, 2) := by decide +kernel
theorem dX9_rests_6 : decode cX9_rests 6 = .ok (.iload 5, 2) := by decide +kernel
theorem dX9_rests_8 : decode cX9_rests 8 = .ok (.aload_n 0, 1) := by decide +kernel
theorem dX9_rests_9 : decode cX9_rests 9 = .ok (.getfield 7, 3) := by decide +kernel
theorem dX9_rests_12 : decode cX9_rests 12 = .ok (.bipush 40, 2) := by decide +kernel
theorem dX9_rests_14 : decode cX9_rests 14 = .ok (.iload_n 1, 1) := by decide +kernel
theorem dX9_rests_15 : decode cX9_rests 15 = .ok (.iadd, 1) := by decide +kernel
theorem dX9_rests_16 : decode cX9_rests 16 = .ok (.iaload, 1) := by decide +kernel
theorem dX9_rests_17 : decode cX9_rests 17 = .ok (.if_icmp .ge 45, 3) := by decide +kernel
theorem dX9_rests_20 : decode cX9_rests 20 = .ok (.iload 4, 2) := by decide +kernel
theorem dX9_rests_22 : decode cX9_rests 22 = .ok (.ifCond .eq 31, 3) := by decide +kernel
theorem dX9_rests_25 : decode cX9_rests 25 = .ok (.aload_n 0, 1) := by decide +kernel
theorem dX9_rests_26 : decode cX9_rests 26 = .ok (.getfield 33, 3) := by decide +kernel
theorem dX9_rests_29 : decode cX9_rests 29 = .ok (.bipush 10, 2) := by decide +kernel
theorem dX9_rests_31 : decode cX9_rests 31 = .ok (.iload 5, 2) := by decide +kernel
theorem dX9_rests_33 : decode cX9_rests 33 = .ok (.imul, 1) := by decide +kernel
theorem dX9_rests_34 : decode cX9_rests 34 = .ok (.iload_n 3, 1) := by decide +kernel
theorem dX9_rests_35 : decode cX9_rests 35 = .ok (.bipush 10, 2) := by decide +kernel
theorem dX9_rests_37 : decode cX9_rests 37 = .ok (.irem, 1) := by decide +kernel
theorem dX9_rests_38 : decode cX9_rests 38 = .ok (.iadd, 1) := by decide +kernel
theorem dX9_rests_39 : decode cX9_rests 39 = .ok (.iaload, 1) := by decide +kernel
theorem dX9_rests_40 : decode cX9_rests 40 = .ok (.aload_n 0, 1) := by decide +kernel
theorem dX9_rests_41 : decode cX9_rests 41 = .ok (.getfield 33, 3) := by decide +kernel
theorem dX9_rests_44 : decode cX9_rests 44 = .ok (.iload_n 3, 1) := by decide +kernel
theorem dX9_rests_45 : decode cX9_rests 45 = .ok (.iaload, 1) := by decide +kernel
theorem dX9_rests_46 : decode cX9_rests 46 = .ok (.if_icmp .gt 7, 3) := by decide +kernel
theorem dX9_rests_49 : decode cX9_rests 49 = .ok (.iconst 1, 1) := by decide +kernel
theorem dX9_rests_50 : decode cX9_rests 50 = .ok (.goto 4, 3) := by decide +kernel
theorem dX9_rests_53 : decode cX9_rests 53 = .ok (.iconst 0, 1) := by decide +kernel
theorem dX9_rests_54 : decode cX9_rests 54 = .ok (.istore 4, 2) := by decide +kernel
theorem dX9_rests_56 : decode cX9_rests 56 = .ok (.iinc 5 1, 3) := by decide +kernel
theorem dX9_rests_59 : decode cX9_rests 59 = .ok (.goto (-53), 3) := by decide +kernel
theorem dX9_rests_62 : decode cX9_rests 62 = .ok (.iconst 0, 1) := by decide +kernel
theorem dX9_rests_63 : decode cX9_rests 63 = .ok (.istore 5, 2) := by decide +kernel
theorem dX9_rests_65 : decode cX9_rests 65 = .ok (.iload 5, 2) := by decide +kernel
theorem dX9_rests_67 : decode cX9_rests 67 = .ok (.aload_n 0, 1) := by decide +kernel
theorem dX9_rests_68 : decode cX9_rests 68 = .ok (.getfield 7, 3) := by decide +kernel
theorem dX9_rests_71 : decode cX9_rests 71 = .ok (.bipush 40, 2) := by decide +kernel
theorem dX9_rests_73 : decode cX9_rests 73 = .ok (.iload_n 2, 1) := by decide +kernel
theorem dX9_rests_74 : decode cX9_rests 74 = .ok (.iadd, 1) := by decide +kernel
theorem dX9_rests_75 : decode cX9_rests 75 = .ok (.iaload, 1) := by decide +kernel
theorem dX9_rests_76 : decode cX9_rests 76 = .ok (.if_icmp .ge 45, 3) := by decide +kernel
theorem dX9_rests_79 : decode cX9_rests 79 = .ok (.iload 4, 2) := by decide +kernel
theorem dX9_rests_81 : decode cX9_rests 81 = .ok (.ifCond .eq 31, 3) := by decide +kernel
theorem dX9_rests_84 : decode cX9_rests 84 = .ok (.aload_n 0, 1) := by decide +kernel
theorem dX9_rests_85 : decode cX9_rests 85 = .ok (.getfield 36, 3) := by decide +kernel
theorem dX9_rests_88 : decode cX9_rests 88 = .ok (.iload_n 3, 1) := by decide +kernel
theorem dX9_rests_89 : decode cX9_rests 89 = .ok (.bipush 10, 2) := by decide +kernel
theorem dX9_rests_91 : decode cX9_rests 91 = .ok (.idiv, 1) := by decide +kernel
theorem dX9_rests_92 : decode cX9_rests 92 = .ok (.bipush 10, 2) := by decide +kernel
theorem dX9_rests_94 : decode cX9_rests 94 = .ok (.imul, 1) := by decide +kernel
theorem dX9_rests_95 : decode cX9_rests 95 = .ok (.iload 5, 2) := by decide +kernel
theorem dX9_rests_97 : decode cX9_rests 97 = .ok (.iadd, 1) := by decide +kernel
theorem dX9_rests_98 : decode cX9_rests 98 = .ok (.iaload, 1) := by decide +kernel
theorem dX9_rests_99 : decode cX9_rests 99 = .ok (.aload_n 0, 1) := by decide +kernel
theorem dX9_rests_100 : decode cX9_rests 100 = .ok (.getfield 36, 3) := by decide +kernel
theorem dX9_rests_103 : decode cX9_rests 103 = .ok (.iload_n 3, 1) := by decide +kernel
theorem dX9_rests_104 : decode cX9_rests 104 = .ok (.iaload, 1) := by decide +kernel
theorem dX9_rests_105 : decode cX9_rests 105 = .ok (.if_icmp .gt 7, 3) := by decide +kernel
theorem dX9_rests_108 : decode cX9_rests 108 = .ok (.iconst 1, 1) := by decide +kernel
theorem dX9_rests_109 : decode cX9_rests 109 = .ok (.goto 4, 3) := by decide +kernel
theorem dX9_rests_112 : decode cX9_rests 112 = .ok (.iconst 0, 1) := by decide +kernel
theorem dX9_rests_113 : decode cX9_rests 113 = .ok (.istore 4, 2) := by decide +kernel
theorem dX9_rests_115 : decode cX9_rests 115 = .ok (.iinc 5 1, 3) := by decide +kernel
theorem dX9_rests_118 : decode cX9_rests 118 = .ok (.goto (-53), 3) := by decide +kernel
theorem dX9_rests_121 : decode cX9_rests 121 = .ok (.iload 4, 2) := by decide +kernel
theorem dX9_rests_123 : decode cX9_rests 123 = .ok (.ireturn, 1) := by decide +kernel
theorem dX9_two_0 : decode cX9_two 0 = .ok (.aload_n 0, 1) := by decide +kernel
theorem dX9_two_1 : decode cX9_two 1 = .ok (.iload_n 1, 1) := by decide +kernel
theorem dX9_two_2 : decode cX9_two 2 = .ok (.invokevirtual 83, 3) := by decide +kernel
theorem dX9_two_5 : decode cX9_two 5 = .ok (.ifCond .eq 21, 3) := by decide +kernel
theorem dX9_two_8 : decode cX9_two 8 = .ok (.aload_n 0, 1) := by decide +kernel
theorem dX9_two_9 : decode cX9_two 9 = .ok (.iload_n 2, 1) := by decide +kernel
theorem dX9_two_10 : decode cX9_two 10 = .ok (.invokevirtual 83, 3) := by decide +kernel
theorem dX9_two_13 : decode cX9_two 13 = .ok (.ifCond .eq 13, 3) := by decide +kernel
theorem dX9_two_16 : decode cX9_two 16 = .ok (.iload_n 1, 1) := by decide +kernel
theorem dX9_two_17 : decode cX9_two 17 = .ok (.iload_n 2, 1) := by decide +kernel
theorem dX9_two_18 : decode cX9_two 18 = .ok (.if_icmp .eq 8, 3) := by decide +kernel
theorem dX9_two_21 : decode cX9_two 21 = .ok (.iload_n 3, 1) := by decide +kernel
theorem dX9_two_22 : decode cX9_two 22 = .ok (.iconst (-1), 1) := by decide +kernel
theorem dX9_two_23 : decode cX9_two 23 = .ok (.if_icmp .ge 10, 3) := by decide +kernel
theorem dX9_two_26 : decode cX9_two 26 = .ok (.aload_n 0, 1) := by decide +kernel
theorem dX9_two_27 : decode cX9_two 27 = .ok (.bipush (-10), 2) := by decide +kernel
theorem dX9_two_29 : decode cX9_two 29 = .ok (.invokevirtual 64, 3) := by decide +kernel
theorem dX9_two_32 : decode cX9_two 32 = .ok (.ireturn, 1) := by decide +kernel
theorem dX9_two_33 : decode cX9_two 33 = .ok (.iconst 0, 1) := by decide +kernel
theorem dX9_two_34 : decode cX9_two 34 = .ok (.istore 4, 2) := by decide +kernel
theorem dX9_two_36 : decode cX9_two 36 = .ok (.iload 4, 2) := by decide +kernel
theorem dX9_two_38 : decode cX9_two 38 = .ok (.bipush 100, 2) := by decide +kernel
theorem dX9_two_40 : decode cX9_two 40 = .ok (.if_icmp .ge 28, 3) := by decide +kernel
theorem dX9_two_43 : decode cX9_two 43 = .ok (.aload_n 0, 1) := by decide +kernel
theorem dX9_two_44 : decode cX9_two 44 = .ok (.iload_n 1, 1) := by decide +kernel
theorem dX9_two_45 : decode cX9_two 45 = .ok (.iload_n 2, 1) := by decide +kernel
theorem dX9_two_46 : decode cX9_two 46 = .ok (.iload 4, 2) := by decide +kernel
theorem dX9_two_48 : decode cX9_two 48 = .ok (.invokevirtual 168, 3) := by decide +kernel
theorem dX9_two_51 : decode cX9_two 51 = .ok (.ifCond .eq 11, 3) := by decide +kernel
theorem dX9_two_54 : decode cX9_two 54 = .ok (.aload_n 0, 1) := by decide +kernel
theorem dX9_two_55 : decode cX9_two 55 = .ok (.iload_n 1, 1) := by decide +kernel
theorem dX9_two_56 : decode cX9_two 56 = .ok (.iload_n 2, 1) := by decide +kernel
theorem dX9_two_57 : decode cX9_two 57 = .ok (.iload 4, 2) := by decide +kernel
theorem dX9_two_59 : decode cX9_two 59 = .ok (.invokevirtual 172, 3) := by decide +kernel
theorem dX9_two_62 : decode cX9_two 62 = .ok (.iinc 4 1, 3) := by decide +kernel
theorem dX9_two_65 : decode cX9_two 65 = .ok (.goto (-29), 3) := by decide +kernel
theorem dX9_two_68 : decode cX9_two 68 = .ok (.iconst 0, 1) := by decide +kernel
theorem dX9_two_69 : decode cX9_two 69 = .ok (.istore 4, 2) := by decide +kernel
theorem dX9_two_71 : decode cX9_two 71 = .ok (.bipush (-5), 2) := by decide +kernel
theorem dX9_two_73 : decode cX9_two 73 = .ok (.istore 5, 2) := by decide +kernel
theorem dX9_two_75 : decode cX9_two 75 = .ok (.iconst 0, 1) := by decide +kernel
theorem dX9_two_76 : decode cX9_two 76 = .ok (.istore 6, 2) := by decide +kernel
theorem dX9_two_78 : decode cX9_two 78 = .ok (.iload 6, 2) := by decide +kernel
theorem dX9_two_80 : decode cX9_two 80 = .ok (.bipush 100, 2) := by decide +kernel
theorem dX9_two_82 : decode cX9_two 82 = .ok (.if_icmp .ge 49, 3) := by decide +kernel
theorem dX9_two_85 : decode cX9_two 85 = .ok (.aload_n 0, 1) := by decide +kernel
theorem dX9_two_86 : decode cX9_two 86 = .ok (.iload_n 1, 1) := by decide +kernel
theorem dX9_two_87 : decode cX9_two 87 = .ok (.iload_n 2, 1) := by decide +kernel
theorem dX9_two_88 : decode cX9_two 88 = .ok (.iload 6, 2) := by decide +kernel
theorem dX9_two_90 : decode cX9_two 90 = .ok (.invokevirtual 168, 3) := by decide +kernel
theorem dX9_two_93 : decode cX9_two 93 = .ok (.ifCond .eq 32, 3) := by decide +kernel
theorem dX9_two_96 : decode cX9_two 96 = .ok (.aload_n 0, 1) := by decide +kernel
theorem dX9_two_97 : decode cX9_two 97 = .ok (.iload_n 1, 1) := by decide +kernel
theorem dX9_two_98 : decode cX9_two 98 = .ok (.iload_n 2, 1) := by decide +kernel
theorem dX9_two_99 : decode cX9_two 99 = .ok (.iload 6, 2) := by decide +kernel
theorem dX9_two_101 : decode cX9_two 101 = .ok (.invokevirtual 176, 3) := by decide +kernel
theorem dX9_two_104 : decode cX9_two 104 = .ok (.ifCond .eq 21, 3) := by decide +kernel
theorem dX9_two_107 : decode cX9_two 107 = .ok (.iload 4, 2) := by decide +kernel
theorem dX9_two_109 : decode cX9_two 109 = .ok (.iload_n 3, 1) := by decide +kernel
theorem dX9_two_110 : decode cX9_two 110 = .ok (.if_icmp .ne 8, 3) := by decide +kernel
theorem dX9_two_113 : decode cX9_two 113 = .ok (.iload 6, 2) := by decide +kernel
theorem dX9_two_115 : decode cX9_two 115 = .ok (.goto 5, 3) := by decide +kernel
theorem dX9_two_118 : decode cX9_two 118 = .ok (.iload 5, 2) := by decide +kernel
theorem dX9_two_120 : decode cX9_two 120 = .ok (.istore 5, 2) := by decide +kernel
theorem dX9_two_122 : decode cX9_two 122 = .ok (.iinc 4 1, 3) := by decide +kernel
theorem dX9_two_125 : decode cX9_two 125 = .ok (.iinc 6 1, 3) := by decide +kernel
theorem dX9_two_128 : decode cX9_two 128 = .ok (.goto (-50), 3) := by decide +kernel
theorem dX9_two_131 : decode cX9_two 131 = .ok (.iload_n 3, 1) := by decide +kernel
theorem dX9_two_132 : decode cX9_two 132 = .ok (.iconst (-1), 1) := by decide +kernel
theorem dX9_two_133 : decode cX9_two 133 = .ok (.if_icmp .ne 8, 3) := by decide +kernel
theorem dX9_two_136 : decode cX9_two 136 = .ok (.iload 4, 2) := by decide +kernel
theorem dX9_two_138 : decode cX9_two 138 = .ok (.goto 5, 3) := by decide +kernel
theorem dX9_two_141 : decode cX9_two 141 = .ok (.iload 5, 2) := by decide +kernel
theorem dX9_two_143 : decode cX9_two 143 = .ok (.ireturn, 1) := by decide +kernel
theorem dX9_bell_0 : decode cX9_bell 0 = .ok (.iload_n 1, 1) := by decide +kernel
theorem dX9_bell_1 : decode cX9_bell 1 = .ok (.i2l, 1) := by decide +kernel
theorem dX9_bell_2 : decode cX9_bell 2 = .ok (.lconst 0, 1) := by decide +kernel
theorem dX9_bell_3 : decode cX9_bell 3 = .ok (.ldc2_w 117, 3) := by decide +kernel
theorem dX9_bell_6 : decode cX9_bell 6 = .ok (.invokestatic 56, 3) := by decide +kernel
theorem dX9_bell_9 : decode cX9_bell 9 = .ok (.ifCond .ne 10, 3) := by decide +kernel
theorem dX9_bell_12 : decode cX9_bell 12 = .ok (.aload_n 0, 1) := by decide +kernel
theorem dX9_bell_13 : decode cX9_bell 13 = .ok (.bipush (-2), 2) := by decide +kernel
theorem dX9_bell_15 : decode cX9_bell 15 = .ok (.invokevirtual 64, 3) := by decide +kernel
theorem dX9_bell_18 : decode cX9_bell 18 = .ok (.ireturn, 1) := by decide +kernel
theorem dX9_bell_19 : decode cX9_bell 19 = .ok (.aload_n 0, 1) := by decide +kernel
theorem dX9_bell_20 : decode cX9_bell 20 = .ok (.invokevirtual 90, 3) := by decide +kernel
theorem dX9_bell_23 : decode cX9_bell 23 = .ok (.aload_n 0, 1) := by decide +kernel
theorem dX9_bell_24 : decode cX9_bell 24 = .ok (.getfield 27, 3) := by decide +kernel
theorem dX9_bell_27 : decode cX9_bell 27 = .ok (.iconst 3, 1) := by decide +kernel
theorem dX9_bell_28 : decode cX9_bell 28 = .ok (.iaload, 1) := by decide +kernel
theorem dX9_bell_29 : decode cX9_bell 29 = .ok (.bipush 10, 2) := by decide +kernel
theorem dX9_bell_31 : decode cX9_bell 31 = .ok (.if_icmp .ne 8, 3) := by decide +kernel
theorem dX9_bell_34 : decode cX9_bell 34 = .ok (.bipush 9, 2) := by decide +kernel
theorem dX9_bell_36 : decode cX9_bell 36 = .ok (.goto 9, 3) := by decide +kernel
theorem dX9_bell_39 : decode cX9_bell 39 = .ok (.aload_n 0, 1) := by decide +kernel
theorem dX9_bell_40 : decode cX9_bell 40 = .ok (.getfield 27, 3) := by decide +kernel
theorem dX9_bell_43 : decode cX9_bell 43 = .ok (.iconst 3, 1) := by decide +kernel
theorem dX9_bell_44 : decode cX9_bell 44 = .ok (.iaload, 1) := by decide +kernel
theorem dX9_bell_45 : decode cX9_bell 45 = .ok (.istore_n 2, 1) := by decide +kernel
theorem dX9_bell_46 : decode cX9_bell 46 = .ok (.aload_n 0, 1) := by decide +kernel
theorem dX9_bell_47 : decode cX9_bell 47 = .ok (.aload_n 0, 1) := by decide +kernel
theorem dX9_bell_48 : decode cX9_bell 48 = .ok (.aload_n 0, 1) := by decide +kernel
theorem dX9_bell_49 : decode cX9_bell 49 = .ok (.getfield 27, 3) := by decide +kernel
theorem dX9_bell_52 : decode cX9_bell 52 = .ok (.iconst 4, 1) := by decide +kernel
theorem dX9_bell_53 : decode cX9_bell 53 = .ok (.iaload, 1) := by decide +kernel
theorem dX9_bell_54 : decode cX9_bell 54 = .ok (.iload_n 2, 1) := by decide +kernel
theorem dX9_bell_55 : decode cX9_bell 55 = .ok (.invokevirtual 111, 3) := by decide +kernel
theorem dX9_bell_58 : decode cX9_bell 58 = .ok (.i2l, 1) := by decide +kernel
theorem dX9_bell_59 : decode cX9_bell 59 = .ok (.bipush 10, 2) := by decide +kernel
theorem dX9_bell_61 : decode cX9_bell 61 = .ok (.iload_n 1, 1) := by decide +kernel
theorem dX9_bell_62 : decode cX9_bell 62 = .ok (.isub, 1) := by decide +kernel
theorem dX9_bell_63 : decode cX9_bell 63 = .ok (.i2l, 1) := by decide +kernel
theorem dX9_bell_64 : decode cX9_bell 64 = .ok (.lmul, 1) := by decide +kernel
theorem dX9_bell_65 : decode cX9_bell 65 = .ok (.ldc2_w 117, 3) := by decide +kernel
theorem dX9_bell_68 : decode cX9_bell 68 = .ok (.invokevirtual 164, 3) := by decide +kernel
theorem dX9_bell_71 : decode cX9_bell 71 = .ok (.iconst 1, 1) := by decide +kernel
theorem dX9_bell_72 : decode cX9_bell 72 = .ok (.ireturn, 1) := by decide +kernel
theorem dX9_days_0 : decode cX9_days 0 = .ok (.iload_n 1, 1) := by decide +kernel
theorem dX9_days_1 : decode cX9_days 1 = .ok (.i2l, 1) := by decide +kernel
theorem dX9_days_2 : decode cX9_days 2 = .ok (.lconst 0, 1) := by decide +kernel
theorem dX9_days_3 : decode cX9_days 3 = .ok (.ldc2_w 179, 3) := by decide +kernel
theorem dX9_days_6 : decode cX9_days 6 = .ok (.invokestatic 56, 3) := by decide +kernel
theorem dX9_days_9 : decode cX9_days 9 = .ok (.ifCond .eq 15, 3) := by decide +kernel
theorem dX9_days_12 : decode cX9_days 12 = .ok (.iload_n 2, 1) := by decide +kernel
theorem dX9_days_13 : decode cX9_days 13 = .ok (.i2l, 1) := by decide +kernel
theorem dX9_days_14 : decode cX9_days 14 = .ok (.lconst 0, 1) := by decide +kernel
theorem dX9_days_15 : decode cX9_days 15 = .ok (.ldc2_w 162, 3) := by decide +kernel
theorem dX9_days_18 : decode cX9_days 18 = .ok (.invokestatic 56, 3) := by decide +kernel
theorem dX9_days_21 : decode cX9_days 21 = .ok (.ifCond .ne 10, 3) := by decide +kernel
theorem dX9_days_24 : decode cX9_days 24 = .ok (.aload_n 0, 1) := by decide +kernel
theorem dX9_days_25 : decode cX9_days 25 = .ok (.bipush (-2), 2) := by decide +kernel
theorem dX9_days_27 : decode cX9_days 27 = .ok (.invokevirtual 64, 3) := by decide +kernel
theorem dX9_days_30 : decode cX9_days 30 = .ok (.ireturn, 1) := by decide +kernel
theorem dX9_days_31 : decode cX9_days 31 = .ok (.iload_n 1, 1) := by decide +kernel
theorem dX9_days_32 : decode cX9_days 32 = .ok (.i2l, 1) := by decide +kernel
theorem dX9_days_33 : decode cX9_days 33 = .ok (.lstore_n 3, 1) := by decide +kernel
theorem dX9_days_34 : decode cX9_days 34 = .ok (.iconst 0, 1) := by decide +kernel
theorem dX9_days_35 : decode cX9_days 35 = .ok (.istore 5, 2) := by decide +kernel
theorem dX9_days_37 : decode cX9_days 37 = .ok (.iconst 0, 1) := by decide +kernel
theorem dX9_days_38 : decode cX9_days 38 = .ok (.istore 6, 2) := by decide +kernel
theorem dX9_days_40 : decode cX9_days 40 = .ok (.iload 6, 2) := by decide +kernel
theorem dX9_days_42 : decode cX9_days 42 = .ok (.iload_n 2, 1) := by decide +kernel
theorem dX9_days_43 : decode cX9_days 43 = .ok (.if_icmp .ge 91, 3) := by decide +kernel
theorem dX9_days_46 : decode cX9_days 46 = .ok (.aload_n 0, 1) := by decide +kernel
theorem dX9_days_47 : decode cX9_days 47 = .ok (.invokevirtual 141, 3) := by decide +kernel
theorem dX9_days_50 : decode cX9_days 50 = .ok (.iconst 0, 1) := by decide +kernel
theorem dX9_days_51 : decode cX9_days 51 = .ok (.istore 7, 2) := by decide +kernel
theorem dX9_days_53 : decode cX9_days 53 = .ok (.iload 7, 2) := by decide +kernel
theorem dX9_days_55 : decode cX9_days 55 = .ok (.aload_n 0, 1) := by decide +kernel
theorem dX9_days_56 : decode cX9_days 56 = .ok (.invokevirtual 52, 3) := by decide +kernel
theorem dX9_days_59 : decode cX9_days 59 = .ok (.if_icmp .ge 51, 3) := by decide +kernel
theorem dX9_days_62 : decode cX9_days 62 = .ok (.lload_n 3, 1) := by decide +kernel
theorem dX9_days_63 : decode cX9_days 63 = .ok (.ldc2_w 181, 3) := by decide +kernel
theorem dX9_days_66 : decode cX9_days 66 = .ok (.lmul, 1) := by decide +kernel
theorem dX9_days_67 : decode cX9_days 67 = .ok (.ldc2_w 183, 3) := by decide +kernel
theorem dX9_days_70 : decode cX9_days 70 = .ok (.ladd, 1) := by decide +kernel
theorem dX9_days_71 : decode cX9_days 71 = .ok (.ldc2_w 185, 3) := by decide +kernel
theorem dX9_days_74 : decode cX9_days 74 = .ok (.lrem, 1) := by decide +kernel
theorem dX9_days_75 : decode cX9_days 75 = .ok (.lstore_n 3, 1) := by decide +kernel
theorem dX9_days_76 : decode cX9_days 76 = .ok (.aload_n 0, 1) := by decide +kernel
theorem dX9_days_77 : decode cX9_days 77 = .ok (.getfield 27, 3) := by decide +kernel
theorem dX9_days_80 : decode cX9_days 80 = .ok (.bipush 33, 2) := by decide +kernel
theorem dX9_days_82 : decode cX9_days 82 = .ok (.iload 7, 2) := by decide +kernel
theorem dX9_days_84 : decode cX9_days 84 = .ok (.iadd, 1) := by decide +kernel
theorem dX9_days_85 : decode cX9_days 85 = .ok (.lload_n 3, 1) := by decide +kernel
theorem dX9_days_86 : decode cX9_days 86 = .ok (.ldc2_w 187, 3) := by decide +kernel
theorem dX9_days_89 : decode cX9_days 89 = .ok (.ldiv, 1) := by decide +kernel
theorem dX9_days_90 : decode cX9_days 90 = .ok (.aload_n 0, 1) := by decide +kernel
theorem dX9_days_91 : decode cX9_days 91 = .ok (.getfield 27, 3) := by decide +kernel
theorem dX9_days_94 : decode cX9_days 94 = .ok (.bipush 40, 2) := by decide +kernel
theorem dX9_days_96 : decode cX9_days 96 = .ok (.iload 7, 2) := by decide +kernel
theorem dX9_days_98 : decode cX9_days 98 = .ok (.iadd, 1) := by decide +kernel
theorem dX9_days_99 : decode cX9_days 99 = .ok (.iaload, 1) := by decide +kernel
theorem dX9_days_100 : decode cX9_days 100 = .ok (.i2l, 1) := by decide +kernel
theorem dX9_days_101 : decode cX9_days 101 = .ok (.lrem, 1) := by decide +kernel
theorem dX9_days_102 : decode cX9_days 102 = .ok (.l2i, 1) := by decide +kernel
theorem dX9_days_103 : decode cX9_days 103 = .ok (.iastore, 1) := by decide +kernel
theorem dX9_days_104 : decode cX9_days 104 = .ok (.iinc 7 1, 3) := by decide +kernel
theorem dX9_days_107 : decode cX9_days 107 = .ok (.goto (-54), 3) := by decide +kernel
theorem dX9_days_110 : decode cX9_days 110 = .ok (.aload_n 0, 1) := by decide +kernel
theorem dX9_days_111 : decode cX9_days 111 = .ok (.bipush 10, 2) := by decide +kernel
theorem dX9_days_113 : decode cX9_days 113 = .ok (.invokevirtual 125, 3) := by decide +kernel
theorem dX9_days_116 : decode cX9_days 116 = .ok (.iload 5, 2) := by decide +kernel
theorem dX9_days_118 : decode cX9_days 118 = .ok (.aload_n 0, 1) := by decide +kernel
theorem dX9_days_119 : decode cX9_days 119 = .ok (.getfield 27, 3) := by decide +kernel
theorem dX9_days_122 : decode cX9_days 122 = .ok (.bipush 7, 2) := by decide +kernel
theorem dX9_days_124 : decode cX9_days 124 = .ok (.iaload, 1) := by decide +kernel
theorem dX9_days_125 : decode cX9_days 125 = .ok (.iadd, 1) := by decide +kernel
theorem dX9_days_126 : decode cX9_days 126 = .ok (.istore 5, 2) := by decide +kernel
theorem dX9_days_128 : decode cX9_days 128 = .ok (.iinc 6 1, 3) := by decide +kernel
theorem dX9_days_131 : decode cX9_days 131 = .ok (.goto (-91), 3) := by decide +kernel
theorem dX9_days_134 : decode cX9_days 134 = .ok (.iload 5, 2) := by decide +kernel
theorem dX9_days_136 : decode cX9_days 136 = .ok (.ireturn, 1) := by decide +kernel
theorem dX9_type_0 : decode cX9_type 0 = .ok (.iload_n 1, 1) := by decide +kernel
theorem dX9_type_1 : decode cX9_type 1 = .ok (.i2l, 1) := by decide +kernel
theorem dX9_type_2 : decode cX9_type 2 = .ok (.lconst 0, 1) := by decide +kernel
theorem dX9_type_3 : decode cX9_type 3 = .ok (.ldc2_w 189, 3) := by decide +kernel
theorem dX9_type_6 : decode cX9_type 6 = .ok (.invokestatic 56, 3) := by decide +kernel
theorem dX9_type_9 : decode cX9_type 9 = .ok (.ifCond .ne 10, 3) := by decide +kernel
theorem dX9_type_12 : decode cX9_type 12 = .ok (.aload_n 0, 1) := by decide +kernel
theorem dX9_type_13 : decode cX9_type 13 = .ok (.bipush (-2), 2) := by decide +kernel
theorem dX9_type_15 : decode cX9_type 15 = .ok (.invokevirtual 64, 3) := by decide +kernel
theorem dX9_type_18 : decode cX9_type 18 = .ok (.ireturn, 1) := by decide +kernel
theorem dX9_type_19 : decode cX9_type 19 = .ok (.aload_n 0, 1) := by decide +kernel
theorem dX9_type_20 : decode cX9_type 20 = .ok (.getfield 191, 3) := by decide +kernel
theorem dX9_type_23 : decode cX9_type 23 = .ok (.sipush 150, 3) := by decide +kernel
theorem dX9_type_26 : decode cX9_type 26 = .ok (.if_icmp .ne 8, 3) := by decide +kernel
theorem dX9_type_29 : decode cX9_type 29 = .ok (.aload_n 0, 1) := by decide +kernel
theorem dX9_type_30 : decode cX9_type 30 = .ok (.invokevirtual 76, 3) := by decide +kernel
theorem dX9_type_33 : decode cX9_type 33 = .ok (.ireturn, 1) := by decide +kernel
theorem dX9_type_34 : decode cX9_type 34 = .ok (.aload_n 0, 1) := by decide +kernel
theorem dX9_type_35 : decode cX9_type 35 = .ok (.getfield 39, 3) := by decide +kernel
theorem dX9_type_38 : decode cX9_type 38 = .ok (.aload_n 0, 1) := by decide +kernel
theorem dX9_type_39 : decode cX9_type 39 = .ok (.getfield 191, 3) := by decide +kernel
theorem dX9_type_42 : decode cX9_type 42 = .ok (.iload_n 1, 1) := by decide +kernel
theorem dX9_type_43 : decode cX9_type 43 = .ok (.iastore, 1) := by decide +kernel
theorem dX9_type_44 : decode cX9_type 44 = .ok (.aload_n 0, 1) := by decide +kernel
theorem dX9_type_45 : decode cX9_type 45 = .ok (.dup, 1) := by decide +kernel
theorem dX9_type_46 : decode cX9_type 46 = .ok (.getfield 191, 3) := by decide +kernel
theorem dX9_type_49 : decode cX9_type 49 = .ok (.iconst 1, 1) := by decide +kernel
theorem dX9_type_50 : decode cX9_type 50 = .ok (.iadd, 1) := by decide +kernel
theorem dX9_type_51 : decode cX9_type 51 = .ok (.putfield 191, 3) := by decide +kernel
theorem dX9_type_54 : decode cX9_type 54 = .ok (.aload_n 0, 1) := by decide +kernel
theorem dX9_type_55 : decode cX9_type 55 = .ok (.getfield 191, 3) := by decide +kernel
theorem dX9_type_58 : decode cX9_type 58 = .ok (.ireturn, 1) := by decide +kernel
theorem dX9_clear_0 : decode cX9_clear 0 = .ok (.aload_n 0, 1) := by decide +kernel
theorem dX9_clear_1 : decode cX9_clear 1 = .ok (.getfield 191, 3) := by decide +kernel
theorem dX9_clear_4 : decode cX9_clear 4 = .ok (.istore_n 1, 1) := by decide +kernel
theorem dX9_clear_5 : decode cX9_clear 5 = .ok (.aload_n 0, 1) := by decide +kernel
theorem dX9_clear_6 : decode cX9_clear 6 = .ok (.iconst 0, 1) := by decide +kernel
theorem dX9_clear_7 : decode cX9_clear 7 = .ok (.putfield 191, 3) := by decide +kernel
theorem dX9_clear_10 : decode cX9_clear 10 = .ok (.iload_n 1, 1) := by decide +kernel
theorem dX9_clear_11 : decode cX9_clear 11 = .ok (.ireturn, 1) := by decide +kernel
theorem dX9_isSmall_0 : decode cX9_isSmall 0 = .ok (.iload_n 0, 1) := by decide +kernel
theorem dX9_isSmall_1 : decode cX9_isSmall 1 = .ok (.i2l, 1) := by decide +kernel
theorem dX9_isSmall_2 : decode cX9_isSmall 2 = .ok (.ldc2_w 195, 3) := by decide +kernel
theorem dX9_isSmall_5 : decode cX9_isSmall 5 = .ok (.ldc2_w 197, 3) := by decide +kernel
theorem dX9_isSmall_8 : decode cX9_isSmall 8 = .ok (.invokestatic 56, 3) := by decide +kernel
theorem dX9_isSmall_11 : decode cX9_isSmall 11 = .ok (.ireturn, 1) := by decide +kernel
theorem dX9_isFigure_0 : decode cX9_isFigure 0 = .ok (.iload_n 0, 1) := by decide +kernel
theorem dX9_isFigure_1 : decode cX9_isFigure 1 = .ok (.i2l, 1) := by decide +kernel
theorem dX9_isFigure_2 : decode cX9_isFigure 2 = .ok (.ldc2_w 199, 3) := by decide +kernel
theorem dX9_isFigure_5 : decode cX9_isFigure 5 = .ok (.ldc2_w 201, 3) := by decide +kernel
theorem dX9_isFigure_8 : decode cX9_isFigure 8 = .ok (.invokestatic 56, 3) := by decide +kernel
theorem dX9_isFigure_11 : decode cX9_isFigure 11 = .ok (.ireturn, 1) := by decide +kernel
theorem dX9_lookAt_0 : decode cX9_lookAt 0 = .ok (.aload_n 0, 1) := by decide +kernel
theorem dX9_lookAt_1 : decode cX9_lookAt 1 = .ok (.iload_n 1, 1) := by decide +kernel
theorem dX9_lookAt_2 : decode cX9_lookAt 2 = .ok (.putfield 203, 3) := by decide +kernel
theorem dX9_lookAt_5 : decode cX9_lookAt 5 = .ok (.aload_n 0, 1) := by decide +kernel
theorem dX9_lookAt_6 : decode cX9_lookAt 6 = .ok (.getfield 203, 3) := by decide +kernel
theorem dX9_lookAt_9 : decode cX9_lookAt 9 = .ok (.aload_n 0, 1) := by decide +kernel
theorem dX9_lookAt_10 : decode cX9_lookAt 10 = .ok (.getfield 191, 3) := by decide +kernel
theorem dX9_lookAt_13 : decode cX9_lookAt 13 = .ok (.if_icmp .ge 30, 3) := by decide +kernel
theorem dX9_lookAt_16 : decode cX9_lookAt 16 = .ok (.aload_n 0, 1) := by decide +kernel
theorem dX9_lookAt_17 : decode cX9_lookAt 17 = .ok (.getfield 39, 3) := by decide +kernel
theorem dX9_lookAt_20 : decode cX9_lookAt 20 = .ok (.aload_n 0, 1) := by decide +kernel
theorem dX9_lookAt_21 : decode cX9_lookAt 21 = .ok (.getfield 203, 3) := by decide +kernel
theorem dX9_lookAt_24 : decode cX9_lookAt 24 = .ok (.iaload, 1) := by decide +kernel
theorem dX9_lookAt_25 : decode cX9_lookAt 25 = .ok (.bipush 32, 2) := by decide +kernel
theorem dX9_lookAt_27 : decode cX9_lookAt 27 = .ok (.if_icmp .ne 16, 3) := by decide +kernel
theorem dX9_lookAt_30 : decode cX9_lookAt 30 = .ok (.aload_n 0, 1) := by decide +kernel
theorem dX9_lookAt_31 : decode cX9_lookAt 31 = .ok (.dup, 1) := by decide +kernel
theorem dX9_lookAt_32 : decode cX9_lookAt 32 = .ok (.getfield 203, 3) := by decide +kernel
theorem dX9_lookAt_35 : decode cX9_lookAt 35 = .ok (.iconst 1, 1) := by decide +kernel
theorem dX9_lookAt_36 : decode cX9_lookAt 36 = .ok (.iadd, 1) := by decide +kernel
theorem dX9_lookAt_37 : decode cX9_lookAt 37 = .ok (.putfield 203, 3) := by decide +kernel
theorem dX9_lookAt_40 : decode cX9_lookAt 40 = .ok (.goto (-35), 3) := by decide +kernel
theorem dX9_lookAt_43 : decode cX9_lookAt 43 = .ok (.aload_n 0, 1) := by decide +kernel
theorem dX9_lookAt_44 : decode cX9_lookAt 44 = .ok (.iconst 0, 1) := by decide +kernel
theorem dX9_lookAt_45 : decode cX9_lookAt 45 = .ok (.putfield 206, 3) := by decide +kernel
theorem dX9_lookAt_48 : decode cX9_lookAt 48 = .ok (.aload_n 0, 1) := by decide +kernel
theorem dX9_lookAt_49 : decode cX9_lookAt 49 = .ok (.iconst 0, 1) := by decide +kernel
theorem dX9_lookAt_50 : decode cX9_lookAt 50 = .ok (.putfield 209, 3) := by decide +kernel
theorem dX9_lookAt_53 : decode cX9_lookAt 53 = .ok (.aload_n 0, 1) := by decide +kernel
theorem dX9_lookAt_54 : decode cX9_lookAt 54 = .ok (.iconst 0, 1) := by decide +kernel
theorem dX9_lookAt_55 : decode cX9_lookAt 55 = .ok (.putfield 212, 3) := by decide +kernel
theorem dX9_lookAt_58 : decode cX9_lookAt 58 = .ok (.aload_n 0, 1) := by decide +kernel
theorem dX9_lookAt_59 : decode cX9_lookAt 59 = .ok (.getfield 203, 3) := by decide +kernel
theorem dX9_lookAt_62 : decode cX9_lookAt 62 = .ok (.aload_n 0, 1) := by decide +kernel
theorem dX9_lookAt_63 : decode cX9_lookAt 63 = .ok (.getfield 191, 3) := by decide +kernel
theorem dX9_lookAt_66 : decode cX9_lookAt 66 = .ok (.if_icmp .ne 4, 3) := by decide +kernel
theorem dX9_lookAt_69 : decode cX9_lookAt 69 = .ok (.return_, 1) := by decide +kernel
theorem dX9_lookAt_70 : decode cX9_lookAt 70 = .ok (.aload_n 0, 1) := by decide +kernel
theorem dX9_lookAt_71 : decode cX9_lookAt 71 = .ok (.getfield 39, 3) := by decide +kernel
theorem dX9_lookAt_74 : decode cX9_lookAt 74 = .ok (.aload_n 0, 1) := by decide +kernel
theorem dX9_lookAt_75 : decode cX9_lookAt 75 = .ok (.getfield 203, 3) := by decide +kernel
theorem dX9_lookAt_78 : decode cX9_lookAt 78 = .ok (.iaload, 1) := by decide +kernel
theorem dX9_lookAt_79 : decode cX9_lookAt 79 = .ok (.istore_n 2, 1) := by decide +kernel
theorem dX9_lookAt_80 : decode cX9_lookAt 80 = .ok (.aload_n 0, 1) := by decide +kernel
theorem dX9_lookAt_81 : decode cX9_lookAt 81 = .ok (.iload_n 2, 1) := by decide +kernel
theorem dX9_lookAt_82 : decode cX9_lookAt 82 = .ok (.invokestatic 215, 3) := by decide +kernel
theorem dX9_lookAt_85 : decode cX9_lookAt 85 = .ok (.ifCond .eq 7, 3) := by decide +kernel
theorem dX9_lookAt_88 : decode cX9_lookAt 88 = .ok (.iconst 1, 1) := by decide +kernel
theorem dX9_lookAt_89 : decode cX9_lookAt 89 = .ok (.goto 25, 3) := by decide +kernel
theorem dX9_lookAt_92 : decode cX9_lookAt 92 = .ok (.iload_n 2, 1) := by decide +kernel
theorem dX9_lookAt_93 : decode cX9_lookAt 93 = .ok (.invokestatic 218, 3) := by decide +kernel
theorem dX9_lookAt_96 : decode cX9_lookAt 96 = .ok (.ifCond .eq 7, 3) := by decide +kernel
theorem dX9_lookAt_99 : decode cX9_lookAt 99 = .ok (.iconst 2, 1) := by decide +kernel
theorem dX9_lookAt_100 : decode cX9_lookAt 100 = .ok (.goto 14, 3) := by decide +kernel
theorem dX9_lookAt_103 : decode cX9_lookAt 103 = .ok (.iload_n 2, 1) := by decide +kernel
theorem dX9_lookAt_104 : decode cX9_lookAt 104 = .ok (.bipush 59, 2) := by decide +kernel
theorem dX9_lookAt_106 : decode cX9_lookAt 106 = .ok (.if_icmp .ne 7, 3) := by decide +kernel
theorem dX9_lookAt_109 : decode cX9_lookAt 109 = .ok (.iconst 3, 1) := by decide +kernel
theorem dX9_lookAt_110 : decode cX9_lookAt 110 = .ok (.goto 4, 3) := by decide +kernel
theorem dX9_lookAt_113 : decode cX9_lookAt 113 = .ok (.iconst 4, 1) := by decide +kernel
theorem dX9_lookAt_114 : decode cX9_lookAt 114 = .ok (.putfield 209, 3) := by decide +kernel
theorem dX9_lookAt_117 : decode cX9_lookAt 117 = .ok (.aload_n 0, 1) := by decide +kernel
theorem dX9_lookAt_118 : decode cX9_lookAt 118 = .ok (.iconst 1, 1) := by decide +kernel
theorem dX9_lookAt_119 : decode cX9_lookAt 119 = .ok (.putfield 206, 3) := by decide +kernel
theorem dX9_lookAt_122 : decode cX9_lookAt 122 = .ok (.aload_n 0, 1) := by decide +kernel
theorem dX9_lookAt_123 : decode cX9_lookAt 123 = .ok (.getfield 209, 3) := by decide +kernel
theorem dX9_lookAt_126 : decode cX9_lookAt 126 = .ok (.iconst 3, 1) := by decide +kernel
theorem dX9_lookAt_127 : decode cX9_lookAt 127 = .ok (.if_icmp .ge 7, 3) := by decide +kernel
theorem dX9_lookAt_130 : decode cX9_lookAt 130 = .ok (.iconst 1, 1) := by decide +kernel
theorem dX9_lookAt_131 : decode cX9_lookAt 131 = .ok (.goto 4, 3) := by decide +kernel
theorem dX9_lookAt_134 : decode cX9_lookAt 134 = .ok (.iconst 0, 1) := by decide +kernel
theorem dX9_lookAt_135 : decode cX9_lookAt 135 = .ok (.istore_n 3, 1) := by decide +kernel
theorem dX9_lookAt_136 : decode cX9_lookAt 136 = .ok (.iload_n 3, 1) := by decide +kernel
theorem dX9_lookAt_137 : decode cX9_lookAt 137 = .ok (.ifCond .eq 78, 3) := by decide +kernel
theorem dX9_lookAt_140 : decode cX9_lookAt 140 = .ok (.aload_n 0, 1) := by decide +kernel
theorem dX9_lookAt_141 : decode cX9_lookAt 141 = .ok (.getfield 203, 3) := by decide +kernel
theorem dX9_lookAt_144 : decode cX9_lookAt 144 = .ok (.aload_n 0, 1) := by decide +kernel
theorem dX9_lookAt_145 : decode cX9_lookAt 145 = .ok (.getfield 206, 3) := by decide +kernel
theorem dX9_lookAt_148 : decode cX9_lookAt 148 = .ok (.iadd, 1) := by decide +kernel
theorem dX9_lookAt_149 : decode cX9_lookAt 149 = .ok (.aload_n 0, 1) := by decide +kernel
theorem dX9_lookAt_150 : decode cX9_lookAt 150 = .ok (.getfield 191, 3) := by decide +kernel
theorem dX9_lookAt_153 : decode cX9_lookAt 153 = .ok (.if_icmp .ge 62, 3) := by decide +kernel
theorem dX9_lookAt_156 : decode cX9_lookAt 156 = .ok (.aload_n 0, 1) := by decide +kernel
theorem dX9_lookAt_157 : decode cX9_lookAt 157 = .ok (.getfield 39, 3) := by decide +kernel
theorem dX9_lookAt_160 : decode cX9_lookAt 160 = .ok (.aload_n 0, 1) := by decide +kernel
theorem dX9_lookAt_161 : decode cX9_lookAt 161 = .ok (.getfield 203, 3) := by decide +kernel
theorem dX9_lookAt_164 : decode cX9_lookAt 164 = .ok (.aload_n 0, 1) := by decide +kernel
theorem dX9_lookAt_165 : decode cX9_lookAt 165 = .ok (.getfield 206, 3) := by decide +kernel
theorem dX9_lookAt_168 : decode cX9_lookAt 168 = .ok (.iadd, 1) := by decide +kernel
theorem dX9_lookAt_169 : decode cX9_lookAt 169 = .ok (.iaload, 1) := by decide +kernel
theorem dX9_lookAt_170 : decode cX9_lookAt 170 = .ok (.istore 4, 2) := by decide +kernel
theorem dX9_lookAt_172 : decode cX9_lookAt 172 = .ok (.aload_n 0, 1) := by decide +kernel
theorem dX9_lookAt_173 : decode cX9_lookAt 173 = .ok (.getfield 209, 3) := by decide +kernel
theorem dX9_lookAt_176 : decode cX9_lookAt 176 = .ok (.iconst 1, 1) := by decide +kernel
theorem dX9_lookAt_177 : decode cX9_lookAt 177 = .ok (.if_icmp .ne 11, 3) := by decide +kernel
theorem dX9_lookAt_180 : decode cX9_lookAt 180 = .ok (.iload 4, 2) := by decide +kernel
theorem dX9_lookAt_182 : decode cX9_lookAt 182 = .ok (.invokestatic 215, 3) := by decide +kernel
theorem dX9_lookAt_185 : decode cX9_lookAt 185 = .ok (.goto 8, 3) := by decide +kernel
theorem dX9_lookAt_188 : decode cX9_lookAt 188 = .ok (.iload 4, 2) := by decide +kernel
theorem dX9_lookAt_190 : decode cX9_lookAt 190 = .ok (.invokestatic 218, 3) := by decide +kernel
theorem dX9_lookAt_193 : decode cX9_lookAt 193 = .ok (.istore_n 3, 1) := by decide +kernel
theorem dX9_lookAt_194 : decode cX9_lookAt 194 = .ok (.aload_n 0, 1) := by decide +kernel
theorem dX9_lookAt_195 : decode cX9_lookAt 195 = .ok (.dup, 1) := by decide +kernel
theorem dX9_lookAt_196 : decode cX9_lookAt 196 = .ok (.getfield 206, 3) := by decide +kernel
theorem dX9_lookAt_199 : decode cX9_lookAt 199 = .ok (.iload_n 3, 1) := by decide +kernel
theorem dX9_lookAt_200 : decode cX9_lookAt 200 = .ok (.ifCond .eq 7, 3) := by decide +kernel
theorem dX9_lookAt_203 : decode cX9_lookAt 203 = .ok (.iconst 1, 1) := by decide +kernel
theorem dX9_lookAt_204 : decode cX9_lookAt 204 = .ok (.goto 4, 3) := by decide +kernel
theorem dX9_lookAt_207 : decode cX9_lookAt 207 = .ok (.iconst 0, 1) := by decide +kernel
theorem dX9_lookAt_208 : decode cX9_lookAt 208 = .ok (.iadd, 1) := by decide +kernel
theorem dX9_lookAt_209 : decode cX9_lookAt 209 = .ok (.putfield 206, 3) := by decide +kernel
theorem dX9_lookAt_212 : decode cX9_lookAt 212 = .ok (.goto (-76), 3) := by decide +kernel
theorem dX9_lookAt_215 : decode cX9_lookAt 215 = .ok (.iconst 0, 1) := by decide +kernel
theorem dX9_lookAt_216 : decode cX9_lookAt 216 = .ok (.istore 4, 2) := by decide +kernel
theorem dX9_lookAt_218 : decode cX9_lookAt 218 = .ok (.iload 4, 2) := by decide +kernel
theorem dX9_lookAt_220 : decode cX9_lookAt 220 = .ok (.aload_n 0, 1) := by decide +kernel
theorem dX9_lookAt_221 : decode cX9_lookAt 221 = .ok (.getfield 206, 3) := by decide +kernel
theorem dX9_lookAt_224 : decode cX9_lookAt 224 = .ok (.if_icmp .ge 50, 3) := by decide +kernel
theorem dX9_lookAt_227 : decode cX9_lookAt 227 = .ok (.iload 4, 2) := by decide +kernel
theorem dX9_lookAt_229 : decode cX9_lookAt 229 = .ok (.iconst 2, 1) := by decide +kernel
theorem dX9_lookAt_230 : decode cX9_lookAt 230 = .ok (.if_icmp .ge 44, 3) := by decide +kernel
theorem dX9_lookAt_233 : decode cX9_lookAt 233 = .ok (.aload_n 0, 1) := by decide +kernel
theorem dX9_lookAt_234 : decode cX9_lookAt 234 = .ok (.getfield 209, 3) := by decide +kernel
theorem dX9_lookAt_237 : decode cX9_lookAt 237 = .ok (.iconst 2, 1) := by decide +kernel
theorem dX9_lookAt_238 : decode cX9_lookAt 238 = .ok (.if_icmp .ne 36, 3) := by decide +kernel
theorem dX9_lookAt_241 : decode cX9_lookAt 241 = .ok (.aload_n 0, 1) := by decide +kernel
theorem dX9_lookAt_242 : decode cX9_lookAt 242 = .ok (.bipush 10, 2) := by decide +kernel
theorem dX9_lookAt_244 : decode cX9_lookAt 244 = .ok (.aload_n 0, 1) := by decide +kernel
theorem dX9_lookAt_245 : decode cX9_lookAt 245 = .ok (.getfield 212, 3) := by decide +kernel
theorem dX9_lookAt_248 : decode cX9_lookAt 248 = .ok (.imul, 1) := by decide +kernel
theorem dX9_lookAt_249 : decode cX9_lookAt 249 = .ok (.aload_n 0, 1) := by decide +kernel
theorem dX9_lookAt_250 : decode cX9_lookAt 250 = .ok (.getfield 39, 3) := by decide +kernel
theorem dX9_lookAt_253 : decode cX9_lookAt 253 = .ok (.aload_n 0, 1) := by decide +kernel
theorem dX9_lookAt_254 : decode cX9_lookAt 254 = .ok (.getfield 203, 3) := by decide +kernel
theorem dX9_lookAt_257 : decode cX9_lookAt 257 = .ok (.iload 4, 2) := by decide +kernel
theorem dX9_lookAt_259 : decode cX9_lookAt 259 = .ok (.iadd, 1) := by decide +kernel
theorem dX9_lookAt_260 : decode cX9_lookAt 260 = .ok (.iaload, 1) := by decide +kernel
theorem dX9_lookAt_261 : decode cX9_lookAt 261 = .ok (.iadd, 1) := by decide +kernel
theorem dX9_lookAt_262 : decode cX9_lookAt 262 = .ok (.bipush 48, 2) := by decide +kernel
theorem dX9_lookAt_264 : decode cX9_lookAt 264 = .ok (.isub, 1) := by decide +kernel
theorem dX9_lookAt_265 : decode cX9_lookAt 265 = .ok (.putfield 212, 3) := by decide +kernel
theorem dX9_lookAt_268 : decode cX9_lookAt 268 = .ok (.iinc 4 1, 3) := by decide +kernel
theorem dX9_lookAt_271 : decode cX9_lookAt 271 = .ok (.goto (-53), 3) := by decide +kernel
theorem dX9_lookAt_274 : decode cX9_lookAt 274 = .ok (.aload_n 0, 1) := by decide +kernel
theorem dX9_lookAt_275 : decode cX9_lookAt 275 = .ok (.aload_n 0, 1) := by decide +kernel
theorem dX9_lookAt_276 : decode cX9_lookAt 276 = .ok (.getfield 209, 3) := by decide +kernel
theorem dX9_lookAt_279 : decode cX9_lookAt 279 = .ok (.iconst 2, 1) := by decide +kernel
theorem dX9_lookAt_280 : decode cX9_lookAt 280 = .ok (.if_icmp .ne 15, 3) := by decide +kernel
theorem dX9_lookAt_283 : decode cX9_lookAt 283 = .ok (.aload_n 0, 1) := by decide +kernel
theorem dX9_lookAt_284 : decode cX9_lookAt 284 = .ok (.getfield 206, 3) := by decide +kernel
theorem dX9_lookAt_287 : decode cX9_lookAt 287 = .ok (.iconst 2, 1) := by decide +kernel
theorem dX9_lookAt_288 : decode cX9_lookAt 288 = .ok (.if_icmp .le 7, 3) := by decide +kernel
theorem dX9_lookAt_291 : decode cX9_lookAt 291 = .ok (.iconst 4, 1) := by decide +kernel
theorem dX9_lookAt_292 : decode cX9_lookAt 292 = .ok (.goto 7, 3) := by decide +kernel
theorem dX9_lookAt_295 : decode cX9_lookAt 295 = .ok (.aload_n 0, 1) := by decide +kernel
theorem dX9_lookAt_296 : decode cX9_lookAt 296 = .ok (.getfield 209, 3) := by decide +kernel
theorem dX9_lookAt_299 : decode cX9_lookAt 299 = .ok (.putfield 209, 3) := by decide +kernel
theorem dX9_lookAt_302 : decode cX9_lookAt 302 = .ok (.return_, 1) := by decide +kernel
theorem dX9_goBehind_0 : decode cX9_goBehind 0 = .ok (.aload_n 0, 1) := by decide +kernel
theorem dX9_goBehind_1 : decode cX9_goBehind 1 = .ok (.aload_n 0, 1) := by decide +kernel
theorem dX9_goBehind_2 : decode cX9_goBehind 2 = .ok (.getfield 203, 3) := by decide +kernel
theorem dX9_goBehind_5 : decode cX9_goBehind 5 = .ok (.aload_n 0, 1) := by decide +kernel
theorem dX9_goBehind_6 : decode cX9_goBehind 6 = .ok (.getfield 206, 3) := by decide +kernel
theorem dX9_goBehind_9 : decode cX9_goBehind 9 = .ok (.iadd, 1) := by decide +kernel
theorem dX9_goBehind_10 : decode cX9_goBehind 10 = .ok (.invokevirtual 221, 3) := by decide +kernel
theorem dX9_goBehind_13 : decode cX9_goBehind 13 = .ok (.return_, 1) := by decide +kernel
theorem dX9_spells_0 : decode cX9_spells 0 = .ok (.aload_n 0, 1) := by decide +kernel
theorem dX9_spells_1 : decode cX9_spells 1 = .ok (.getfield 209, 3) := by decide +kernel
theorem dX9_spells_4 : decode cX9_spells 4 = .ok (.iconst 1, 1) := by decide +kernel
theorem dX9_spells_5 : decode cX9_spells 5 = .ok (.if_icmp .ne 15, 3) := by decide +kernel
theorem dX9_spells_8 : decode cX9_spells 8 = .ok (.aload_n 0, 1) := by decide +kernel
theorem dX9_spells_9 : decode cX9_spells 9 = .ok (.getfield 206, 3) := by decide +kernel
theorem dX9_spells_12 : decode cX9_spells 12 = .ok (.iload_n 1, 1) := by decide +kernel
theorem dX9_spells_13 : decode cX9_spells 13 = .ok (.if_icmp .ne 7, 3) := by decide +kernel
theorem dX9_spells_16 : decode cX9_spells 16 = .ok (.iconst 1, 1) := by decide +kernel
theorem dX9_spells_17 : decode cX9_spells 17 = .ok (.goto 4, 3) := by decide +kernel
theorem dX9_spells_20 : decode cX9_spells 20 = .ok (.iconst 0, 1) := by decide +kernel
theorem dX9_spells_21 : decode cX9_spells 21 = .ok (.istore 8, 2) := by decide +kernel
theorem dX9_spells_23 : decode cX9_spells 23 = .ok (.iconst 0, 1) := by decide +kernel
theorem dX9_spells_24 : decode cX9_spells 24 = .ok (.istore 9, 2) := by decide +kernel
theorem dX9_spells_26 : decode cX9_spells 26 = .ok (.iload 9, 2) := by decide +kernel
theorem dX9_spells_28 : decode cX9_spells 28 = .ok (.iload_n 1, 1) := by decide +kernel
theorem dX9_spells_29 : decode cX9_spells 29 = .ok (.if_icmp .ge 90, 3) := by decide +kernel
theorem dX9_spells_32 : decode cX9_spells 32 = .ok (.iload 8, 2) := by decide +kernel
theorem dX9_spells_34 : decode cX9_spells 34 = .ok (.ifCond .eq 85, 3) := by decide +kernel
theorem dX9_spells_37 : decode cX9_spells 37 = .ok (.aload_n 0, 1) := by decide +kernel
theorem dX9_spells_38 : decode cX9_spells 38 = .ok (.getfield 39, 3) := by decide +kernel
theorem dX9_spells_41 : decode cX9_spells 41 = .ok (.aload_n 0, 1) := by decide +kernel
theorem dX9_spells_42 : decode cX9_spells 42 = .ok (.getfield 203, 3) := by decide +kernel
theorem dX9_spells_45 : decode cX9_spells 45 = .ok (.iload 9, 2) := by decide +kernel
theorem dX9_spells_47 : decode cX9_spells 47 = .ok (.iadd, 1) := by decide +kernel
theorem dX9_spells_48 : decode cX9_spells 48 = .ok (.iaload, 1) := by decide +kernel
theorem dX9_spells_49 : decode cX9_spells 49 = .ok (.iload 9, 2) := by decide +kernel
theorem dX9_spells_51 : decode cX9_spells 51 = .ok (.ifCond .ne 7, 3) := by decide +kernel
theorem dX9_spells_54 : decode cX9_spells 54 = .ok (.iload_n 2, 1) := by decide +kernel
theorem dX9_spells_55 : decode cX9_spells 55 = .ok (.goto 48, 3) := by decide +kernel
theorem dX9_spells_58 : decode cX9_spells 58 = .ok (.iload 9, 2) := by decide +kernel
theorem dX9_spells_60 : decode cX9_spells 60 = .ok (.iconst 1, 1) := by decide +kernel
theorem dX9_spells_61 : decode cX9_spells 61 = .ok (.if_icmp .ne 7, 3) := by decide +kernel
theorem dX9_spells_64 : decode cX9_spells 64 = .ok (.iload_n 3, 1) := by decide +kernel
theorem dX9_spells_65 : decode cX9_spells 65 = .ok (.goto 38, 3) := by decide +kernel
theorem dX9_spells_68 : decode cX9_spells 68 = .ok (.iload 9, 2) := by decide +kernel
theorem dX9_spells_70 : decode cX9_spells 70 = .ok (.iconst 2, 1) := by decide +kernel
theorem dX9_spells_71 : decode cX9_spells 71 = .ok (.if_icmp .ne 8, 3) := by decide +kernel
theorem dX9_spells_74 : decode cX9_spells 74 = .ok (.iload 4, 2) := by decide +kernel
theorem dX9_spells_76 : decode cX9_spells 76 = .ok (.goto 27, 3) := by decide +kernel
theorem dX9_spells_79 : decode cX9_spells 79 = .ok (.iload 9, 2) := by decide +kernel
theorem dX9_spells_81 : decode cX9_spells 81 = .ok (.iconst 3, 1) := by decide +kernel
theorem dX9_spells_82 : decode cX9_spells 82 = .ok (.if_icmp .ne 8, 3) := by decide +kernel
theorem dX9_spells_85 : decode cX9_spells 85 = .ok (.iload 5, 2) := by decide +kernel
theorem dX9_spells_87 : decode cX9_spells 87 = .ok (.goto 16, 3) := by decide +kernel
theorem dX9_spells_90 : decode cX9_spells 90 = .ok (.iload 9, 2) := by decide +kernel
theorem dX9_spells_92 : decode cX9_spells 92 = .ok (.iconst 4, 1) := by decide +kernel
theorem dX9_spells_93 : decode cX9_spells 93 = .ok (.if_icmp .ne 8, 3) := by decide +kernel
theorem dX9_spells_96 : decode cX9_spells 96 = .ok (.iload 6, 2) := by decide +kernel
theorem dX9_spells_98 : decode cX9_spells 98 = .ok (.goto 5, 3) := by decide +kernel
theorem dX9_spells_101 : decode cX9_spells 101 = .ok (.iload 7, 2) := by decide +kernel
theorem dX9_spells_103 : decode cX9_spells 103 = .ok (.if_icmp .ne 7, 3) := by decide +kernel
theorem dX9_spells_106 : decode cX9_spells 106 = .ok (.iconst 1, 1) := by decide +kernel
theorem dX9_spells_107 : decode cX9_spells 107 = .ok (.goto 4, 3) := by decide +kernel
theorem dX9_spells_110 : decode cX9_spells 110 = .ok (.iconst 0, 1) := by decide +kernel
theorem dX9_spells_111 : decode cX9_spells 111 = .ok (.istore 8, 2) := by decide +kernel
theorem dX9_spells_113 : decode cX9_spells 113 = .ok (.iinc 9 1, 3) := by decide +kernel
theorem dX9_spells_116 : decode cX9_spells 116 = .ok (.goto (-90), 3) := by decide +kernel
theorem dX9_spells_119 : decode cX9_spells 119 = .ok (.iload 8, 2) := by decide +kernel
theorem dX9_spells_121 : decode cX9_spells 121 = .ok (.ireturn, 1) := by decide +kernel
theorem dX9_takes_0 : decode cX9_takes 0 = .ok (.aload_n 0, 1) := by decide +kernel
theorem dX9_takes_1 : decode cX9_takes 1 = .ok (.getfield 209, 3) := by decide +kernel
theorem dX9_takes_4 : decode cX9_takes 4 = .ok (.iconst 2, 1) := by decide +kernel
theorem dX9_takes_5 : decode cX9_takes 5 = .ok (.if_icmp .ne 18, 3) := by decide +kernel
theorem dX9_takes_8 : decode cX9_takes 8 = .ok (.aload_n 0, 1) := by decide +kernel
theorem dX9_takes_9 : decode cX9_takes 9 = .ok (.getfield 212, 3) := by decide +kernel
theorem dX9_takes_12 : decode cX9_takes 12 = .ok (.i2l, 1) := by decide +kernel
theorem dX9_takes_13 : decode cX9_takes 13 = .ok (.iload_n 2, 1) := by decide +kernel
theorem dX9_takes_14 : decode cX9_takes 14 = .ok (.i2l, 1) := by decide +kernel
theorem dX9_takes_15 : decode cX9_takes 15 = .ok (.iload_n 3, 1) := by decide +kernel
theorem dX9_takes_16 : decode cX9_takes 16 = .ok (.i2l, 1) := by decide +kernel
theorem dX9_takes_17 : decode cX9_takes 17 = .ok (.invokestatic 56, 3) := by decide +kernel
theorem dX9_takes_20 : decode cX9_takes 20 = .ok (.ifCond .ne 5, 3) := by decide +kernel
theorem dX9_takes_23 : decode cX9_takes 23 = .ok (.iconst 0, 1) := by decide +kernel
theorem dX9_takes_24 : decode cX9_takes 24 = .ok (.ireturn, 1) := by decide +kernel
theorem dX9_takes_25 : decode cX9_takes 25 = .ok (.aload_n 0, 1) := by decide +kernel
theorem dX9_takes_26 : decode cX9_takes 26 = .ok (.getfield 45, 3) := by decide +kernel
theorem dX9_takes_29 : decode cX9_takes 29 = .ok (.iload_n 1, 1) := by decide +kernel
theorem dX9_takes_30 : decode cX9_takes 30 = .ok (.aload_n 0, 1) := by decide +kernel
theorem dX9_takes_31 : decode cX9_takes 31 = .ok (.getfield 212, 3) := by decide +kernel
theorem dX9_takes_34 : decode cX9_takes 34 = .ok (.iastore, 1) := by decide +kernel
theorem dX9_takes_35 : decode cX9_takes 35 = .ok (.aload_n 0, 1) := by decide +kernel
theorem dX9_takes_36 : decode cX9_takes 36 = .ok (.invokevirtual 224, 3) := by decide +kernel
theorem dX9_takes_39 : decode cX9_takes 39 = .ok (.iconst 1, 1) := by decide +kernel
theorem dX9_takes_40 : decode cX9_takes 40 = .ok (.ireturn, 1) := by decide +kernel
theorem dX9_takesBus_0 : decode cX9_takesBus 0 = .ok (.aload_n 0, 1) := by decide +kernel
theorem dX9_takesBus_1 : decode cX9_takesBus 1 = .ok (.iconst 3, 1) := by decide +kernel
theorem dX9_takesBus_2 : decode cX9_takesBus 2 = .ok (.bipush 98, 2) := by decide +kernel
theorem dX9_takesBus_4 : decode cX9_takesBus 4 = .ok (.bipush 117, 2) := by decide +kernel
theorem dX9_takesBus_6 : decode cX9_takesBus 6 = .ok (.bipush 115, 2) := by decide +kernel
theorem dX9_takesBus_8 : decode cX9_takesBus 8 = .ok (.iconst 0, 1) := by decide +kernel
theorem dX9_takesBus_9 : decode cX9_takesBus 9 = .ok (.iconst 0, 1) := by decide +kernel
theorem dX9_takesBus_10 : decode cX9_takesBus 10 = .ok (.iconst 0, 1) := by decide +kernel
theorem dX9_takesBus_11 : decode cX9_takesBus 11 = .ok (.invokevirtual 227, 3) := by decide +kernel
theorem dX9_takesBus_14 : decode cX9_takesBus 14 = .ok (.ifCond .ne 5, 3) := by decide +kernel
theorem dX9_takesBus_17 : decode cX9_takesBus 17 = .ok (.iconst 0, 1) := by decide +kernel
theorem dX9_takesBus_18 : decode cX9_takesBus 18 = .ok (.ireturn, 1) := by decide +kernel
theorem dX9_takesBus_19 : decode cX9_takesBus 19 = .ok (.aload_n 0, 1) := by decide +kernel
theorem dX9_takesBus_20 : decode cX9_takesBus 20 = .ok (.invokevirtual 224, 3) := by decide +kernel
theorem dX9_takesBus_23 : decode cX9_takesBus 23 = .ok (.aload_n 0, 1) := by decide +kernel
theorem dX9_takesBus_24 : decode cX9_takesBus 24 = .ok (.iconst 0, 1) := by decide +kernel
theorem dX9_takesBus_25 : decode cX9_takesBus 25 = .ok (.iconst 1, 1) := by decide +kernel
theorem dX9_takesBus_26 : decode cX9_takesBus 26 = .ok (.bipush 7, 2) := by decide +kernel
theorem dX9_takesBus_28 : decode cX9_takesBus 28 = .ok (.invokevirtual 231, 3) := by decide +kernel
theorem dX9_takesBus_31 : decode cX9_takesBus 31 = .ok (.ifCond .ne 5, 3) := by decide +kernel
theorem dX9_takesBus_34 : decode cX9_takesBus 34 = .ok (.iconst 0, 1) := by decide +kernel
theorem dX9_takesBus_35 : decode cX9_takesBus 35 = .ok (.ireturn, 1) := by decide +kernel
theorem dX9_takesBus_36 : decode cX9_takesBus 36 = .ok (.aload_n 0, 1) := by decide +kernel
theorem dX9_takesBus_37 : decode cX9_takesBus 37 = .ok (.getfield 42, 3) := by decide +kernel
theorem dX9_takesBus_40 : decode cX9_takesBus 40 = .ok (.aload_n 0, 1) := by decide +kernel
theorem dX9_takesBus_41 : decode cX9_takesBus 41 = .ok (.getfield 45, 3) := by decide +kernel
theorem dX9_takesBus_44 : decode cX9_takesBus 44 = .ok (.iconst 0, 1) := by decide +kernel
theorem dX9_takesBus_45 : decode cX9_takesBus 45 = .ok (.iaload, 1) := by decide +kernel
theorem dX9_takesBus_46 : decode cX9_takesBus 46 = .ok (.invokestatic 48, 3) := by decide +kernel
theorem dX9_takesBus_49 : decode cX9_takesBus 49 = .ok (.aload_n 0, 1) := by decide +kernel
theorem dX9_takesBus_50 : decode cX9_takesBus 50 = .ok (.getfield 209, 3) := by decide +kernel
theorem dX9_takesBus_53 : decode cX9_takesBus 53 = .ok (.iconst 3, 1) := by decide +kernel
theorem dX9_takesBus_54 : decode cX9_takesBus 54 = .ok (.if_icmp .ne 7, 3) := by decide +kernel
theorem dX9_takesBus_57 : decode cX9_takesBus 57 = .ok (.iconst 1, 1) := by decide +kernel
theorem dX9_takesBus_58 : decode cX9_takesBus 58 = .ok (.goto 4, 3) := by decide +kernel
theorem dX9_takesBus_61 : decode cX9_takesBus 61 = .ok (.iconst 0, 1) := by decide +kernel
theorem dX9_takesBus_62 : decode cX9_takesBus 62 = .ok (.ireturn, 1) := by decide +kernel
theorem dX9_takesBridge_0 : decode cX9_takesBridge 0 = .ok (.aload_n 0, 1) := by decide +kernel
theorem dX9_takesBridge_1 : decode cX9_takesBridge 1 = .ok (.invokevirtual 224, 3) := by decide +kernel
theorem dX9_takesBridge_4 : decode cX9_takesBridge 4 = .ok (.aload_n 0, 1) := by decide +kernel
theorem dX9_takesBridge_5 : decode cX9_takesBridge 5 = .ok (.iconst 0, 1) := by decide +kernel
theorem dX9_takesBridge_6 : decode cX9_takesBridge 6 = .ok (.iconst 0, 1) := by decide +kernel
theorem dX9_takesBridge_7 : decode cX9_takesBridge 7 = .ok (.bipush 9, 2) := by decide +kernel
theorem dX9_takesBridge_9 : decode cX9_takesBridge 9 = .ok (.invokevirtual 231, 3) := by decide +kernel
theorem dX9_takesBridge_12 : decode cX9_takesBridge 12 = .ok (.ifCond .eq 14, 3) := by decide +kernel
theorem dX9_takesBridge_15 : decode cX9_takesBridge 15 = .ok (.aload_n 0, 1) := by decide +kernel
theorem dX9_takesBridge_16 : decode cX9_takesBridge 16 = .ok (.iconst 1, 1) := by decide +kernel
theorem dX9_takesBridge_17 : decode cX9_takesBridge 17 = .ok (.iconst 1, 1) := by decide +kernel
theorem dX9_takesBridge_18 : decode cX9_takesBridge 18 = .ok (.bipush 9, 2) := by decide +kernel
theorem dX9_takesBridge_20 : decode cX9_takesBridge 20 = .ok (.invokevirtual 231, 3) := by decide +kernel
theorem dX9_takesBridge_23 : decode cX9_takesBridge 23 = .ok (.ifCond .ne 5, 3) := by decide +kernel
theorem dX9_takesBridge_26 : decode cX9_takesBridge 26 = .ok (.iconst 0, 1) := by decide +kernel
theorem dX9_takesBridge_27 : decode cX9_takesBridge 27 = .ok (.ireturn, 1) := by decide +kernel
theorem dX9_takesBridge_28 : decode cX9_takesBridge 28 = .ok (.aload_n 0, 1) := by decide +kernel
theorem dX9_takesBridge_29 : decode cX9_takesBridge 29 = .ok (.getfield 42, 3) := by decide +kernel
theorem dX9_takesBridge_32 : decode cX9_takesBridge 32 = .ok (.bipush 9, 2) := by decide +kernel
theorem dX9_takesBridge_34 : decode cX9_takesBridge 34 = .ok (.aload_n 0, 1) := by decide +kernel
theorem dX9_takesBridge_35 : decode cX9_takesBridge 35 = .ok (.getfield 45, 3) := by decide +kernel
theorem dX9_takesBridge_38 : decode cX9_takesBridge 38 = .ok (.iconst 0, 1) := by decide +kernel
theorem dX9_takesBridge_39 : decode cX9_takesBridge 39 = .ok (.iaload, 1) := by decide +kernel
theorem dX9_takesBridge_40 : decode cX9_takesBridge 40 = .ok (.iadd, 1) := by decide +kernel
theorem dX9_takesBridge_41 : decode cX9_takesBridge 41 = .ok (.aload_n 0, 1) := by decide +kernel
theorem dX9_takesBridge_42 : decode cX9_takesBridge 42 = .ok (.getfield 45, 3) := by decide +kernel
theorem dX9_takesBridge_45 : decode cX9_takesBridge 45 = .ok (.iconst 1, 1) := by decide +kernel
theorem dX9_takesBridge_46 : decode cX9_takesBridge 46 = .ok (.iaload, 1) := by decide +kernel
theorem dX9_takesBridge_47 : decode cX9_takesBridge 47 = .ok (.iastore, 1) := by decide +kernel
theorem dX9_takesBridge_48 : decode cX9_takesBridge 48 = .ok (.iconst 1, 1) := by decide +kernel
theorem dX9_takesBridge_49 : decode cX9_takesBridge 49 = .ok (.ireturn, 1) := by decide +kernel
theorem dX9_takesIdea_0 : decode cX9_takesIdea 0 = .ok (.aload_n 0, 1) := by decide +kernel
theorem dX9_takesIdea_1 : decode cX9_takesIdea 1 = .ok (.getfield 42, 3) := by decide +kernel
theorem dX9_takesIdea_4 : decode cX9_takesIdea 4 = .ok (.iconst 0, 1) := by decide +kernel
theorem dX9_takesIdea_5 : decode cX9_takesIdea 5 = .ok (.iaload, 1) := by decide +kernel
theorem dX9_takesIdea_6 : decode cX9_takesIdea 6 = .ok (.bipush 7, 2) := by decide +kernel
theorem dX9_takesIdea_8 : decode cX9_takesIdea 8 = .ok (.if_icmp .ne 5, 3) := by decide +kernel
theorem dX9_takesIdea_11 : decode cX9_takesIdea 11 = .ok (.iconst 0, 1) := by decide +kernel
theorem dX9_takesIdea_12 : decode cX9_takesIdea 12 = .ok (.ireturn, 1) := by decide +kernel
theorem dX9_takesIdea_13 : decode cX9_takesIdea 13 = .ok (.aload_n 0, 1) := by decide +kernel
theorem dX9_takesIdea_14 : decode cX9_takesIdea 14 = .ok (.invokevirtual 224, 3) := by decide +kernel
theorem dX9_takesIdea_17 : decode cX9_takesIdea 17 = .ok (.aload_n 0, 1) := by decide +kernel
theorem dX9_takesIdea_18 : decode cX9_takesIdea 18 = .ok (.iconst 0, 1) := by decide +kernel
theorem dX9_takesIdea_19 : decode cX9_takesIdea 19 = .ok (.iconst 0, 1) := by decide +kernel
theorem dX9_takesIdea_20 : decode cX9_takesIdea 20 = .ok (.iconst 5, 1) := by decide +kernel
theorem dX9_takesIdea_21 : decode cX9_takesIdea 21 = .ok (.invokevirtual 231, 3) := by decide +kernel
theorem dX9_takesIdea_24 : decode cX9_takesIdea 24 = .ok (.ifCond .eq 43, 3) := by decide +kernel
theorem dX9_takesIdea_27 : decode cX9_takesIdea 27 = .ok (.aload_n 0, 1) := by decide +kernel
theorem dX9_takesIdea_28 : decode cX9_takesIdea 28 = .ok (.iconst 1, 1) := by decide +kernel
theorem dX9_takesIdea_29 : decode cX9_takesIdea 29 = .ok (.iconst 1, 1) := by decide +kernel
theorem dX9_takesIdea_30 : decode cX9_takesIdea 30 = .ok (.bipush 9, 2) := by decide +kernel
theorem dX9_takesIdea_32 : decode cX9_takesIdea 32 = .ok (.invokevirtual 231, 3) := by decide +kernel
theorem dX9_takesIdea_35 : decode cX9_takesIdea 35 = .ok (.ifCond .eq 32, 3) := by decide +kernel
theorem dX9_takesIdea_38 : decode cX9_takesIdea 38 = .ok (.aload_n 0, 1) := by decide +kernel
theorem dX9_takesIdea_39 : decode cX9_takesIdea 39 = .ok (.iconst 2, 1) := by decide +kernel
theorem dX9_takesIdea_40 : decode cX9_takesIdea 40 = .ok (.iconst 0, 1) := by decide +kernel
theorem dX9_takesIdea_41 : decode cX9_takesIdea 41 = .ok (.bipush 8, 2) := by decide +kernel
theorem dX9_takesIdea_43 : decode cX9_takesIdea 43 = .ok (.invokevirtual 231, 3) := by decide +kernel
theorem dX9_takesIdea_46 : decode cX9_takesIdea 46 = .ok (.ifCond .eq 21, 3) := by decide +kernel
theorem dX9_takesIdea_49 : decode cX9_takesIdea 49 = .ok (.aload_n 0, 1) := by decide +kernel
theorem dX9_takesIdea_50 : decode cX9_takesIdea 50 = .ok (.iconst 3, 1) := by decide +kernel
theorem dX9_takesIdea_51 : decode cX9_takesIdea 51 = .ok (.aload_n 0, 1) := by decide +kernel
theorem dX9_takesIdea_52 : decode cX9_takesIdea 52 = .ok (.getfield 45, 3) := by decide +kernel
theorem dX9_takesIdea_55 : decode cX9_takesIdea 55 = .ok (.iconst 2, 1) := by decide +kernel
theorem dX9_takesIdea_56 : decode cX9_takesIdea 56 = .ok (.iaload, 1) := by decide +kernel
theorem dX9_takesIdea_57 : decode cX9_takesIdea 57 = .ok (.iconst 1, 1) := by decide +kernel
theorem dX9_takesIdea_58 : decode cX9_takesIdea 58 = .ok (.iadd, 1) := by decide +kernel
theorem dX9_takesIdea_59 : decode cX9_takesIdea 59 = .ok (.bipush 9, 2) := by decide +kernel
theorem dX9_takesIdea_61 : decode cX9_takesIdea 61 = .ok (.invokevirtual 231, 3) := by decide +kernel
theorem dX9_takesIdea_64 : decode cX9_takesIdea 64 = .ok (.ifCond .ne 5, 3) := by decide +kernel
theorem dX9_takesIdea_67 : decode cX9_takesIdea 67 = .ok (.iconst 0, 1) := by decide +kernel
theorem dX9_takesIdea_68 : decode cX9_takesIdea 68 = .ok (.ireturn, 1) := by decide +kernel
theorem dX9_takesIdea_69 : decode cX9_takesIdea 69 = .ok (.aload_n 0, 1) := by decide +kernel
theorem dX9_takesIdea_70 : decode cX9_takesIdea 70 = .ok (.getfield 42, 3) := by decide +kernel
theorem dX9_takesIdea_73 : decode cX9_takesIdea 73 = .ok (.aload_n 0, 1) := by decide +kernel
theorem dX9_takesIdea_74 : decode cX9_takesIdea 74 = .ok (.getfield 45, 3) := by decide +kernel
theorem dX9_takesIdea_77 : decode cX9_takesIdea 77 = .ok (.iconst 0, 1) := by decide +kernel
theorem dX9_takesIdea_78 : decode cX9_takesIdea 78 = .ok (.iaload, 1) := by decide +kernel
theorem dX9_takesIdea_79 : decode cX9_takesIdea 79 = .ok (.aload_n 0, 1) := by decide +kernel
theorem dX9_takesIdea_80 : decode cX9_takesIdea 80 = .ok (.getfield 45, 3) := by decide +kernel
theorem dX9_takesIdea_83 : decode cX9_takesIdea 83 = .ok (.iconst 1, 1) := by decide +kernel
theorem dX9_takesIdea_84 : decode cX9_takesIdea 84 = .ok (.iaload, 1) := by decide +kernel
theorem dX9_takesIdea_85 : decode cX9_takesIdea 85 = .ok (.aload_n 0, 1) := by decide +kernel
theorem dX9_takesIdea_86 : decode cX9_takesIdea 86 = .ok (.getfield 45, 3) := by decide +kernel
theorem dX9_takesIdea_89 : decode cX9_takesIdea 89 = .ok (.iconst 2, 1) := by decide +kernel
theorem dX9_takesIdea_90 : decode cX9_takesIdea 90 = .ok (.iaload, 1) := by decide +kernel
theorem dX9_takesIdea_91 : decode cX9_takesIdea 91 = .ok (.aload_n 0, 1) := by decide +kernel
theorem dX9_takesIdea_92 : decode cX9_takesIdea 92 = .ok (.getfield 45, 3) := by decide +kernel
theorem dX9_takesIdea_95 : decode cX9_takesIdea 95 = .ok (.iconst 3, 1) := by decide +kernel
theorem dX9_takesIdea_96 : decode cX9_takesIdea 96 = .ok (.iaload, 1) := by decide +kernel
theorem dX9_takesIdea_97 : decode cX9_takesIdea 97 = .ok (.invokestatic 79, 3) := by decide +kernel
theorem dX9_takesIdea_100 : decode cX9_takesIdea 100 = .ok (.iconst 1, 1) := by decide +kernel
theorem dX9_takesIdea_101 : decode cX9_takesIdea 101 = .ok (.ireturn, 1) := by decide +kernel
theorem dX9_takesQuarrel_0 : decode cX9_takesQuarrel 0 = .ok (.aload_n 0, 1) := by decide +kernel
theorem dX9_takesQuarrel_1 : decode cX9_takesQuarrel 1 = .ok (.invokevirtual 224, 3) := by decide +kernel
theorem dX9_takesQuarrel_4 : decode cX9_takesQuarrel 4 = .ok (.aload_n 0, 1) := by decide +kernel
theorem dX9_takesQuarrel_5 : decode cX9_takesQuarrel 5 = .ok (.iconst 0, 1) := by decide +kernel
theorem dX9_takesQuarrel_6 : decode cX9_takesQuarrel 6 = .ok (.iconst 0, 1) := by decide +kernel
theorem dX9_takesQuarrel_7 : decode cX9_takesQuarrel 7 = .ok (.aload_n 0, 1) := by decide +kernel
theorem dX9_takesQuarrel_8 : decode cX9_takesQuarrel 8 = .ok (.getfield 42, 3) := by decide +kernel
theorem dX9_takesQuarrel_11 : decode cX9_takesQuarrel 11 = .ok (.iconst 0, 1) := by decide +kernel
theorem dX9_takesQuarrel_12 : decode cX9_takesQuarrel 12 = .ok (.iaload, 1) := by decide +kernel
theorem dX9_takesQuarrel_13 : decode cX9_takesQuarrel 13 = .ok (.iconst 1, 1) := by decide +kernel
theorem dX9_takesQuarrel_14 : decode cX9_takesQuarrel 14 = .ok (.isub, 1) := by decide +kernel
theorem dX9_takesQuarrel_15 : decode cX9_takesQuarrel 15 = .ok (.invokevirtual 231, 3) := by decide +kernel
theorem dX9_takesQuarrel_18 : decode cX9_takesQuarrel 18 = .ok (.ifCond .eq 41, 3) := by decide +kernel
theorem dX9_takesQuarrel_21 : decode cX9_takesQuarrel 21 = .ok (.aload_n 0, 1) := by decide +kernel
theorem dX9_takesQuarrel_22 : decode cX9_takesQuarrel 22 = .ok (.getfield 209, 3) := by decide +kernel
theorem dX9_takesQuarrel_25 : decode cX9_takesQuarrel 25 = .ok (.iconst 2, 1) := by decide +kernel
theorem dX9_takesQuarrel_26 : decode cX9_takesQuarrel 26 = .ok (.if_icmp .ne 33, 3) := by decide +kernel
theorem dX9_takesQuarrel_29 : decode cX9_takesQuarrel 29 = .ok (.aload_n 0, 1) := by decide +kernel
theorem dX9_takesQuarrel_30 : decode cX9_takesQuarrel 30 = .ok (.getfield 212, 3) := by decide +kernel
theorem dX9_takesQuarrel_33 : decode cX9_takesQuarrel 33 = .ok (.aload_n 0, 1) := by decide +kernel
theorem dX9_takesQuarrel_34 : decode cX9_takesQuarrel 34 = .ok (.getfield 45, 3) := by decide +kernel
theorem dX9_takesQuarrel_37 : decode cX9_takesQuarrel 37 = .ok (.iconst 0, 1) := by decide +kernel
theorem dX9_takesQuarrel_38 : decode cX9_takesQuarrel 38 = .ok (.iaload, 1) := by decide +kernel
theorem dX9_takesQuarrel_39 : decode cX9_takesQuarrel 39 = .ok (.if_icmp .eq 20, 3) := by decide +kernel
theorem dX9_takesQuarrel_42 : decode cX9_takesQuarrel 42 = .ok (.aload_n 0, 1) := by decide +kernel
theorem dX9_takesQuarrel_43 : decode cX9_takesQuarrel 43 = .ok (.iconst 1, 1) := by decide +kernel
theorem dX9_takesQuarrel_44 : decode cX9_takesQuarrel 44 = .ok (.iconst 0, 1) := by decide +kernel
theorem dX9_takesQuarrel_45 : decode cX9_takesQuarrel 45 = .ok (.aload_n 0, 1) := by decide +kernel
theorem dX9_takesQuarrel_46 : decode cX9_takesQuarrel 46 = .ok (.getfield 42, 3) := by decide +kernel
theorem dX9_takesQuarrel_49 : decode cX9_takesQuarrel 49 = .ok (.iconst 0, 1) := by decide +kernel
theorem dX9_takesQuarrel_50 : decode cX9_takesQuarrel 50 = .ok (.iaload, 1) := by decide +kernel
theorem dX9_takesQuarrel_51 : decode cX9_takesQuarrel 51 = .ok (.iconst 1, 1) := by decide +kernel
theorem dX9_takesQuarrel_52 : decode cX9_takesQuarrel 52 = .ok (.isub, 1) := by decide +kernel
theorem dX9_takesQuarrel_53 : decode cX9_takesQuarrel 53 = .ok (.invokevirtual 231, 3) := by decide +kernel
theorem dX9_takesQuarrel_56 : decode cX9_takesQuarrel 56 = .ok (.ifCond .ne 5, 3) := by decide +kernel
theorem dX9_takesQuarrel_59 : decode cX9_takesQuarrel 59 = .ok (.iconst 0, 1) := by decide +kernel
theorem dX9_takesQuarrel_60 : decode cX9_takesQuarrel 60 = .ok (.ireturn, 1) := by decide +kernel
theorem dX9_takesQuarrel_61 : decode cX9_takesQuarrel 61 = .ok (.aload_n 0, 1) := by decide +kernel
theorem dX9_takesQuarrel_62 : decode cX9_takesQuarrel 62 = .ok (.getfield 42, 3) := by decide +kernel
theorem dX9_takesQuarrel_65 : decode cX9_takesQuarrel 65 = .ok (.aload_n 0, 1) := by decide +kernel
theorem dX9_takesQuarrel_66 : decode cX9_takesQuarrel 66 = .ok (.getfield 45, 3) := by decide +kernel
theorem dX9_takesQuarrel_69 : decode cX9_takesQuarrel 69 = .ok (.iconst 0, 1) := by decide +kernel
theorem dX9_takesQuarrel_70 : decode cX9_takesQuarrel 70 = .ok (.iaload, 1) := by decide +kernel
theorem dX9_takesQuarrel_71 : decode cX9_takesQuarrel 71 = .ok (.aload_n 0, 1) := by decide +kernel
theorem dX9_takesQuarrel_72 : decode cX9_takesQuarrel 72 = .ok (.getfield 45, 3) := by decide +kernel
theorem dX9_takesQuarrel_75 : decode cX9_takesQuarrel 75 = .ok (.iconst 1, 1) := by decide +kernel
theorem dX9_takesQuarrel_76 : decode cX9_takesQuarrel 76 = .ok (.iaload, 1) := by decide +kernel
theorem dX9_takesQuarrel_77 : decode cX9_takesQuarrel 77 = .ok (.iconst 1, 1) := by decide +kernel
theorem dX9_takesQuarrel_78 : decode cX9_takesQuarrel 78 = .ok (.invokestatic 86, 3) := by decide +kernel
theorem dX9_takesQuarrel_81 : decode cX9_takesQuarrel 81 = .ok (.iconst 1, 1) := by decide +kernel
theorem dX9_takesQuarrel_82 : decode cX9_takesQuarrel 82 = .ok (.ireturn, 1) := by decide +kernel
theorem dX9_takesItem_0 : decode cX9_takesItem 0 = .ok (.aload_n 0, 1) := by decide +kernel
theorem dX9_takesItem_1 : decode cX9_takesItem 1 = .ok (.bipush 6, 2) := by decide +kernel
theorem dX9_takesItem_3 : decode cX9_takesItem 3 = .ok (.bipush 98, 2) := by decide +kernel
theorem dX9_takesItem_5 : decode cX9_takesItem 5 = .ok (.bipush 114, 2) := by decide +kernel
theorem dX9_takesItem_7 : decode cX9_takesItem 7 = .ok (.bipush 105, 2) := by decide +kernel
theorem dX9_takesItem_9 : decode cX9_takesItem 9 = .ok (.bipush 100, 2) := by decide +kernel
theorem dX9_takesItem_11 : decode cX9_takesItem 11 = .ok (.bipush 103, 2) := by decide +kernel
theorem dX9_takesItem_13 : decode cX9_takesItem 13 = .ok (.bipush 101, 2) := by decide +kernel
theorem dX9_takesItem_15 : decode cX9_takesItem 15 = .ok (.invokevirtual 227, 3) := by decide +kernel
theorem dX9_takesItem_18 : decode cX9_takesItem 18 = .ok (.ifCond .eq 8, 3) := by decide +kernel
theorem dX9_takesItem_21 : decode cX9_takesItem 21 = .ok (.aload_n 0, 1) := by decide +kernel
theorem dX9_takesItem_22 : decode cX9_takesItem 22 = .ok (.invokevirtual 234, 3) := by decide +kernel
theorem dX9_takesItem_25 : decode cX9_takesItem 25 = .ok (.ireturn, 1) := by decide +kernel
theorem dX9_takesItem_26 : decode cX9_takesItem 26 = .ok (.aload_n 0, 1) := by decide +kernel
theorem dX9_takesItem_27 : decode cX9_takesItem 27 = .ok (.iconst 4, 1) := by decide +kernel
theorem dX9_takesItem_28 : decode cX9_takesItem 28 = .ok (.bipush 105, 2) := by decide +kernel
theorem dX9_takesItem_30 : decode cX9_takesItem 30 = .ok (.bipush 100, 2) := by decide +kernel
theorem dX9_takesItem_32 : decode cX9_takesItem 32 = .ok (.bipush 101, 2) := by decide +kernel
theorem dX9_takesItem_34 : decode cX9_takesItem 34 = .ok (.bipush 97, 2) := by decide +kernel
theorem dX9_takesItem_36 : decode cX9_takesItem 36 = .ok (.iconst 0, 1) := by decide +kernel
theorem dX9_takesItem_37 : decode cX9_takesItem 37 = .ok (.iconst 0, 1) := by decide +kernel
theorem dX9_takesItem_38 : decode cX9_takesItem 38 = .ok (.invokevirtual 227, 3) := by decide +kernel
theorem dX9_takesItem_41 : decode cX9_takesItem 41 = .ok (.ifCond .eq 8, 3) := by decide +kernel
theorem dX9_takesItem_44 : decode cX9_takesItem 44 = .ok (.aload_n 0, 1) := by decide +kernel
theorem dX9_takesItem_45 : decode cX9_takesItem 45 = .ok (.invokevirtual 238, 3) := by decide +kernel
theorem dX9_takesItem_48 : decode cX9_takesItem 48 = .ok (.ireturn, 1) := by decide +kernel
theorem dX9_takesItem_49 : decode cX9_takesItem 49 = .ok (.aload_n 0, 1) := by decide +kernel
theorem dX9_takesItem_50 : decode cX9_takesItem 50 = .ok (.invokevirtual 241, 3) := by decide +kernel
theorem dX9_takesItem_53 : decode cX9_takesItem 53 = .ok (.ifCond .eq 14, 3) := by decide +kernel
theorem dX9_takesItem_56 : decode cX9_takesItem 56 = .ok (.aload_n 0, 1) := by decide +kernel
theorem dX9_takesItem_57 : decode cX9_takesItem 57 = .ok (.invokevirtual 244, 3) := by decide +kernel
theorem dX9_takesItem_60 : decode cX9_takesItem 60 = .ok (.ifCond .eq 7, 3) := by decide +kernel
theorem dX9_takesItem_63 : decode cX9_takesItem 63 = .ok (.iconst 1, 1) := by decide +kernel
theorem dX9_takesItem_64 : decode cX9_takesItem 64 = .ok (.goto 4, 3) := by decide +kernel
theorem dX9_takesItem_67 : decode cX9_takesItem 67 = .ok (.iconst 0, 1) := by decide +kernel
theorem dX9_takesItem_68 : decode cX9_takesItem 68 = .ok (.ireturn, 1) := by decide +kernel
theorem dX9_isQuarrel_0 : decode cX9_isQuarrel 0 = .ok (.aload_n 0, 1) := by decide +kernel
theorem dX9_isQuarrel_1 : decode cX9_isQuarrel 1 = .ok (.getfield 209, 3) := by decide +kernel
theorem dX9_isQuarrel_4 : decode cX9_isQuarrel 4 = .ok (.iconst 1, 1) := by decide +kernel
theorem dX9_isQuarrel_5 : decode cX9_isQuarrel 5 = .ok (.if_icmp .ne 16, 3) := by decide +kernel
theorem dX9_isQuarrel_8 : decode cX9_isQuarrel 8 = .ok (.aload_n 0, 1) := by decide +kernel
theorem dX9_isQuarrel_9 : decode cX9_isQuarrel 9 = .ok (.getfield 206, 3) := by decide +kernel
theorem dX9_isQuarrel_12 : decode cX9_isQuarrel 12 = .ok (.bipush 7, 2) := by decide +kernel
theorem dX9_isQuarrel_14 : decode cX9_isQuarrel 14 = .ok (.if_icmp .ne 7, 3) := by decide +kernel
theorem dX9_isQuarrel_17 : decode cX9_isQuarrel 17 = .ok (.iconst 1, 1) := by decide +kernel
theorem dX9_isQuarrel_18 : decode cX9_isQuarrel 18 = .ok (.goto 4, 3) := by decide +kernel
theorem dX9_isQuarrel_21 : decode cX9_isQuarrel 21 = .ok (.iconst 0, 1) := by decide +kernel
theorem dX9_isQuarrel_22 : decode cX9_isQuarrel 22 = .ok (.istore_n 1, 1) := by decide +kernel
theorem dX9_isQuarrel_23 : decode cX9_isQuarrel 23 = .ok (.aload_n 0, 1) := by decide +kernel
theorem dX9_isQuarrel_24 : decode cX9_isQuarrel 24 = .ok (.iload_n 1, 1) := by decide +kernel
theorem dX9_isQuarrel_25 : decode cX9_isQuarrel 25 = .ok (.ifCond .eq 8, 3) := by decide +kernel
theorem dX9_isQuarrel_28 : decode cX9_isQuarrel 28 = .ok (.bipush 6, 2) := by decide +kernel
theorem dX9_isQuarrel_30 : decode cX9_isQuarrel 30 = .ok (.goto 7, 3) := by decide +kernel
theorem dX9_isQuarrel_33 : decode cX9_isQuarrel 33 = .ok (.aload_n 0, 1) := by decide +kernel
theorem dX9_isQuarrel_34 : decode cX9_isQuarrel 34 = .ok (.getfield 206, 3) := by decide +kernel
theorem dX9_isQuarrel_37 : decode cX9_isQuarrel 37 = .ok (.putfield 206, 3) := by decide +kernel
theorem dX9_isQuarrel_40 : decode cX9_isQuarrel 40 = .ok (.aload_n 0, 1) := by decide +kernel
theorem dX9_isQuarrel_41 : decode cX9_isQuarrel 41 = .ok (.bipush 6, 2) := by decide +kernel
theorem dX9_isQuarrel_43 : decode cX9_isQuarrel 43 = .ok (.bipush 113, 2) := by decide +kernel
theorem dX9_isQuarrel_45 : decode cX9_isQuarrel 45 = .ok (.bipush 117, 2) := by decide +kernel
theorem dX9_isQuarrel_47 : decode cX9_isQuarrel 47 = .ok (.bipush 97, 2) := by decide +kernel
theorem dX9_isQuarrel_49 : decode cX9_isQuarrel 49 = .ok (.bipush 114, 2) := by decide +kernel
theorem dX9_isQuarrel_51 : decode cX9_isQuarrel 51 = .ok (.bipush 114, 2) := by decide +kernel
theorem dX9_isQuarrel_53 : decode cX9_isQuarrel 53 = .ok (.bipush 101, 2) := by decide +kernel
theorem dX9_isQuarrel_55 : decode cX9_isQuarrel 55 = .ok (.invokevirtual 227, 3) := by decide +kernel
theorem dX9_isQuarrel_58 : decode cX9_isQuarrel 58 = .ok (.istore_n 2, 1) := by decide +kernel
theorem dX9_isQuarrel_59 : decode cX9_isQuarrel 59 = .ok (.aload_n 0, 1) := by decide +kernel
theorem dX9_isQuarrel_60 : decode cX9_isQuarrel 60 = .ok (.iload_n 1, 1) := by decide +kernel
theorem dX9_isQuarrel_61 : decode cX9_isQuarrel 61 = .ok (.ifCond .eq 8, 3) := by decide +kernel
theorem dX9_isQuarrel_64 : decode cX9_isQuarrel 64 = .ok (.bipush 7, 2) := by decide +kernel
theorem dX9_isQuarrel_66 : decode cX9_isQuarrel 66 = .ok (.goto 7, 3) := by decide +kernel
theorem dX9_isQuarrel_69 : decode cX9_isQuarrel 69 = .ok (.aload_n 0, 1) := by decide +kernel
theorem dX9_isQuarrel_70 : decode cX9_isQuarrel 70 = .ok (.getfield 206, 3) := by decide +kernel
theorem dX9_isQuarrel_73 : decode cX9_isQuarrel 73 = .ok (.putfield 206, 3) := by decide +kernel
theorem dX9_isQuarrel_76 : decode cX9_isQuarrel 76 = .ok (.iload_n 1, 1) := by decide +kernel
theorem dX9_isQuarrel_77 : decode cX9_isQuarrel 77 = .ok (.ifCond .eq 28, 3) := by decide +kernel
theorem dX9_isQuarrel_80 : decode cX9_isQuarrel 80 = .ok (.iload_n 2, 1) := by decide +kernel
theorem dX9_isQuarrel_81 : decode cX9_isQuarrel 81 = .ok (.ifCond .eq 24, 3) := by decide +kernel
theorem dX9_isQuarrel_84 : decode cX9_isQuarrel 84 = .ok (.aload_n 0, 1) := by decide +kernel
theorem dX9_isQuarrel_85 : decode cX9_isQuarrel 85 = .ok (.getfield 39, 3) := by decide +kernel
theorem dX9_isQuarrel_88 : decode cX9_isQuarrel 88 = .ok (.aload_n 0, 1) := by decide +kernel
theorem dX9_isQuarrel_89 : decode cX9_isQuarrel 89 = .ok (.getfield 203, 3) := by decide +kernel
theorem dX9_isQuarrel_92 : decode cX9_isQuarrel 92 = .ok (.bipush 6, 2) := by decide +kernel
theorem dX9_isQuarrel_94 : decode cX9_isQuarrel 94 = .ok (.iadd, 1) := by decide +kernel
theorem dX9_isQuarrel_95 : decode cX9_isQuarrel 95 = .ok (.iaload, 1) := by decide +kernel
theorem dX9_isQuarrel_96 : decode cX9_isQuarrel 96 = .ok (.bipush 108, 2) := by decide +kernel
theorem dX9_isQuarrel_98 : decode cX9_isQuarrel 98 = .ok (.if_icmp .ne 7, 3) := by decide +kernel
theorem dX9_isQuarrel_101 : decode cX9_isQuarrel 101 = .ok (.iconst 1, 1) := by decide +kernel
theorem dX9_isQuarrel_102 : decode cX9_isQuarrel 102 = .ok (.goto 4, 3) := by decide +kernel
theorem dX9_isQuarrel_105 : decode cX9_isQuarrel 105 = .ok (.iconst 0, 1) := by decide +kernel
theorem dX9_isQuarrel_106 : decode cX9_isQuarrel 106 = .ok (.ireturn, 1) := by decide +kernel
theorem dX9_read_0 : decode cX9_read 0 = .ok (.aload_n 0, 1) := by decide +kernel
theorem dX9_read_1 : decode cX9_read 1 = .ok (.iconst 0, 1) := by decide +kernel
theorem dX9_read_2 : decode cX9_read 2 = .ok (.invokevirtual 221, 3) := by decide +kernel
theorem dX9_read_5 : decode cX9_read 5 = .ok (.aload_n 0, 1) := by decide +kernel
theorem dX9_read_6 : decode cX9_read 6 = .ok (.invokevirtual 247, 3) := by decide +kernel
theorem dX9_read_9 : decode cX9_read 9 = .ok (.ifCond .ne 11, 3) := by decide +kernel
theorem dX9_read_12 : decode cX9_read 12 = .ok (.bipush (-10), 2) := by decide +kernel
theorem dX9_read_14 : decode cX9_read 14 = .ok (.aload_n 0, 1) := by decide +kernel
theorem dX9_read_15 : decode cX9_read 15 = .ok (.getfield 203, 3) := by decide +kernel
theorem dX9_read_18 : decode cX9_read 18 = .ok (.isub, 1) := by decide +kernel
theorem dX9_read_19 : decode cX9_read 19 = .ok (.ireturn, 1) := by decide +kernel
theorem dX9_read_20 : decode cX9_read 20 = .ok (.aload_n 0, 1) := by decide +kernel
theorem dX9_read_21 : decode cX9_read 21 = .ok (.invokevirtual 224, 3) := by decide +kernel
theorem dX9_read_24 : decode cX9_read 24 = .ok (.iconst 1, 1) := by decide +kernel
theorem dX9_read_25 : decode cX9_read 25 = .ok (.istore_n 1, 1) := by decide +kernel
theorem dX9_read_26 : decode cX9_read 26 = .ok (.aload_n 0, 1) := by decide +kernel
theorem dX9_read_27 : decode cX9_read 27 = .ok (.getfield 209, 3) := by decide +kernel
theorem dX9_read_30 : decode cX9_read 30 = .ok (.ifCond .eq 36, 3) := by decide +kernel
theorem dX9_read_33 : decode cX9_read 33 = .ok (.aload_n 0, 1) := by decide +kernel
theorem dX9_read_34 : decode cX9_read 34 = .ok (.invokevirtual 250, 3) := by decide +kernel
theorem dX9_read_37 : decode cX9_read 37 = .ok (.ifCond .eq 11, 3) := by decide +kernel
theorem dX9_read_40 : decode cX9_read 40 = .ok (.aload_n 0, 1) := by decide +kernel
theorem dX9_read_41 : decode cX9_read 41 = .ok (.getfield 209, 3) := by decide +kernel
theorem dX9_read_44 : decode cX9_read 44 = .ok (.iconst 3, 1) := by decide +kernel
theorem dX9_read_45 : decode cX9_read 45 = .ok (.if_icmp .eq 11, 3) := by decide +kernel
theorem dX9_read_48 : decode cX9_read 48 = .ok (.bipush (-10), 2) := by decide +kernel
theorem dX9_read_50 : decode cX9_read 50 = .ok (.aload_n 0, 1) := by decide +kernel
theorem dX9_read_51 : decode cX9_read 51 = .ok (.getfield 203, 3) := by decide +kernel
theorem dX9_read_54 : decode cX9_read 54 = .ok (.isub, 1) := by decide +kernel
theorem dX9_read_55 : decode cX9_read 55 = .ok (.ireturn, 1) := by decide +kernel
theorem dX9_read_56 : decode cX9_read 56 = .ok (.aload_n 0, 1) := by decide +kernel
theorem dX9_read_57 : decode cX9_read 57 = .ok (.invokevirtual 224, 3) := by decide +kernel
theorem dX9_read_60 : decode cX9_read 60 = .ok (.iinc 1 1, 3) := by decide +kernel
theorem dX9_read_63 : decode cX9_read 63 = .ok (.goto (-37), 3) := by decide +kernel
theorem dX9_read_66 : decode cX9_read 66 = .ok (.iconst 0, 1) := by decide +kernel
theorem dX9_read_67 : decode cX9_read 67 = .ok (.istore_n 2, 1) := by decide +kernel
theorem dX9_read_68 : decode cX9_read 68 = .ok (.iload_n 2, 1) := by decide +kernel
theorem dX9_read_69 : decode cX9_read 69 = .ok (.bipush 78, 2) := by decide +kernel
theorem dX9_read_71 : decode cX9_read 71 = .ok (.if_icmp .ge 21, 3) := by decide +kernel
theorem dX9_read_74 : decode cX9_read 74 = .ok (.aload_n 0, 1) := by decide +kernel
theorem dX9_read_75 : decode cX9_read 75 = .ok (.getfield 7, 3) := by decide +kernel
theorem dX9_read_78 : decode cX9_read 78 = .ok (.iload_n 2, 1) := by decide +kernel
theorem dX9_read_79 : decode cX9_read 79 = .ok (.aload_n 0, 1) := by decide +kernel
theorem dX9_read_80 : decode cX9_read 80 = .ok (.getfield 42, 3) := by decide +kernel
theorem dX9_read_83 : decode cX9_read 83 = .ok (.iload_n 2, 1) := by decide +kernel
theorem dX9_read_84 : decode cX9_read 84 = .ok (.iaload, 1) := by decide +kernel
theorem dX9_read_85 : decode cX9_read 85 = .ok (.iastore, 1) := by decide +kernel
theorem dX9_read_86 : decode cX9_read 86 = .ok (.iinc 2 1, 3) := by decide +kernel
theorem dX9_read_89 : decode cX9_read 89 = .ok (.goto (-21), 3) := by decide +kernel
theorem dX9_read_92 : decode cX9_read 92 = .ok (.iload_n 1, 1) := by decide +kernel
theorem dX9_read_93 : decode cX9_read 93 = .ok (.ireturn, 1) := by decide +kernel
theorem dX9_part_0 : decode cX9_part 0 = .ok (.iload_n 1, 1) := by decide +kernel
theorem dX9_part_1 : decode cX9_part 1 = .ok (.ifCond .ne 10, 3) := by decide +kernel
theorem dX9_part_4 : decode cX9_part 4 = .ok (.aload_n 0, 1) := by decide +kernel
theorem dX9_part_5 : decode cX9_part 5 = .ok (.getfield 159, 3) := by decide +kernel
theorem dX9_part_8 : decode cX9_part 8 = .ok (.goto 22, 3) := by decide +kernel
theorem dX9_part_11 : decode cX9_part 11 = .ok (.iload_n 1, 1) := by decide +kernel
theorem dX9_part_12 : decode cX9_part 12 = .ok (.iconst 1, 1) := by decide +kernel
theorem dX9_part_13 : decode cX9_part 13 = .ok (.if_icmp .ne 10, 3) := by decide +kernel
theorem dX9_part_16 : decode cX9_part 16 = .ok (.aload_n 0, 1) := by decide +kernel
theorem dX9_part_17 : decode cX9_part 17 = .ok (.getfield 23, 3) := by decide +kernel
theorem dX9_part_20 : decode cX9_part 20 = .ok (.goto 10, 3) := by decide +kernel
theorem dX9_part_23 : decode cX9_part 23 = .ok (.aload_n 0, 1) := by decide +kernel
theorem dX9_part_24 : decode cX9_part 24 = .ok (.bipush (-2), 2) := by decide +kernel
theorem dX9_part_26 : decode cX9_part 26 = .ok (.invokevirtual 64, 3) := by decide +kernel
theorem dX9_part_29 : decode cX9_part 29 = .ok (.i2l, 1) := by decide +kernel
theorem dX9_part_30 : decode cX9_part 30 = .ok (.lreturn, 1) := by decide +kernel
theorem dX9_image_0 : decode cX9_image 0 = .ok (.iload_n 1, 1) := by decide +kernel
theorem dX9_image_1 : decode cX9_image 1 = .ok (.i2l, 1) := by decide +kernel
theorem dX9_image_2 : decode cX9_image 2 = .ok (.lconst 0, 1) := by decide +kernel
theorem dX9_image_3 : decode cX9_image 3 = .ok (.lconst 1, 1) := by decide +kernel
theorem dX9_image_4 : decode cX9_image 4 = .ok (.invokestatic 56, 3) := by decide +kernel
theorem dX9_image_7 : decode cX9_image 7 = .ok (.ifCond .ne 10, 3) := by decide +kernel
theorem dX9_image_10 : decode cX9_image 10 = .ok (.aload_n 0, 1) := by decide +kernel
theorem dX9_image_11 : decode cX9_image 11 = .ok (.bipush (-2), 2) := by decide +kernel
theorem dX9_image_13 : decode cX9_image 13 = .ok (.invokevirtual 64, 3) := by decide +kernel
theorem dX9_image_16 : decode cX9_image 16 = .ok (.ireturn, 1) := by decide +kernel
theorem dX9_image_17 : decode cX9_image 17 = .ok (.iconst 0, 1) := by decide +kernel
theorem dX9_image_18 : decode cX9_image 18 = .ok (.istore_n 2, 1) := by decide +kernel
theorem dX9_image_19 : decode cX9_image 19 = .ok (.iload_n 2, 1) := by decide +kernel
theorem dX9_image_20 : decode cX9_image 20 = .ok (.bipush 118, 2) := by decide +kernel
theorem dX9_image_22 : decode cX9_image 22 = .ok (.if_icmp .ge 26, 3) := by decide +kernel
theorem dX9_image_25 : decode cX9_image 25 = .ok (.aload_n 0, 1) := by decide +kernel
theorem dX9_image_26 : decode cX9_image 26 = .ok (.getfield 13, 3) := by decide +kernel
theorem dX9_image_29 : decode cX9_image 29 = .ok (.bipush 118, 2) := by decide +kernel
theorem dX9_image_31 : decode cX9_image 31 = .ok (.iload_n 1, 1) := by decide +kernel
theorem dX9_image_32 : decode cX9_image 32 = .ok (.imul, 1) := by decide +kernel
theorem dX9_image_33 : decode cX9_image 33 = .ok (.iload_n 2, 1) := by decide +kernel
theorem dX9_image_34 : decode cX9_image 34 = .ok (.iadd, 1) := by decide +kernel
theorem dX9_image_35 : decode cX9_image 35 = .ok (.aload_n 0, 1) := by decide +kernel
theorem dX9_image_36 : decode cX9_image 36 = .ok (.getfield 7, 3) := by decide +kernel
theorem dX9_image_39 : decode cX9_image 39 = .ok (.iload_n 2, 1) := by decide +kernel
theorem dX9_image_40 : decode cX9_image 40 = .ok (.iaload, 1) := by decide +kernel
theorem dX9_image_41 : decode cX9_image 41 = .ok (.iastore, 1) := by decide +kernel
theorem dX9_image_42 : decode cX9_image 42 = .ok (.iinc 2 1, 3) := by decide +kernel
theorem dX9_image_45 : decode cX9_image 45 = .ok (.goto (-26), 3) := by decide +kernel
theorem dX9_image_48 : decode cX9_image 48 = .ok (.aload_n 0, 1) := by decide +kernel
theorem dX9_image_49 : decode cX9_image 49 = .ok (.getfield 16, 3) := by decide +kernel
theorem dX9_image_52 : decode cX9_image 52 = .ok (.iload_n 1, 1) := by decide +kernel
theorem dX9_image_53 : decode cX9_image 53 = .ok (.iconst 1, 1) := by decide +kernel
theorem dX9_image_54 : decode cX9_image 54 = .ok (.bastore, 1) := by decide +kernel
theorem dX9_image_55 : decode cX9_image 55 = .ok (.iconst 1, 1) := by decide +kernel
theorem dX9_image_56 : decode cX9_image 56 = .ok (.ireturn, 1) := by decide +kernel
theorem dX9_from_0 : decode cX9_from 0 = .ok (.iload_n 1, 1) := by decide +kernel
theorem dX9_from_1 : decode cX9_from 1 = .ok (.i2l, 1) := by decide +kernel
theorem dX9_from_2 : decode cX9_from 2 = .ok (.lconst 0, 1) := by decide +kernel
theorem dX9_from_3 : decode cX9_from 3 = .ok (.lconst 1, 1) := by decide +kernel
theorem dX9_from_4 : decode cX9_from 4 = .ok (.invokestatic 56, 3) := by decide +kernel
theorem dX9_from_7 : decode cX9_from 7 = .ok (.ifCond .ne 10, 3) := by decide +kernel
theorem dX9_from_10 : decode cX9_from 10 = .ok (.aload_n 0, 1) := by decide +kernel
theorem dX9_from_11 : decode cX9_from 11 = .ok (.bipush (-2), 2) := by decide +kernel
theorem dX9_from_13 : decode cX9_from 13 = .ok (.invokevirtual 64, 3) := by decide +kernel
theorem dX9_from_16 : decode cX9_from 16 = .ok (.ireturn, 1) := by decide +kernel
theorem dX9_from_17 : decode cX9_from 17 = .ok (.aload_n 0, 1) := by decide +kernel
theorem dX9_from_18 : decode cX9_from 18 = .ok (.getfield 16, 3) := by decide +kernel
theorem dX9_from_21 : decode cX9_from 21 = .ok (.iload_n 1, 1) := by decide +kernel
theorem dX9_from_22 : decode cX9_from 22 = .ok (.baload, 1) := by decide +kernel
theorem dX9_from_23 : decode cX9_from 23 = .ok (.ifCond .ne 8, 3) := by decide +kernel
theorem dX9_from_26 : decode cX9_from 26 = .ok (.aload_n 0, 1) := by decide +kernel
theorem dX9_from_27 : decode cX9_from 27 = .ok (.invokevirtual 119, 3) := by decide +kernel
theorem dX9_from_30 : decode cX9_from 30 = .ok (.ireturn, 1) := by decide +kernel
theorem dX9_from_31 : decode cX9_from 31 = .ok (.iconst 0, 1) := by decide +kernel
theorem dX9_from_32 : decode cX9_from 32 = .ok (.istore_n 2, 1) := by decide +kernel
theorem dX9_from_33 : decode cX9_from 33 = .ok (.iload_n 2, 1) := by decide +kernel
theorem dX9_from_34 : decode cX9_from 34 = .ok (.bipush 118, 2) := by decide +kernel
theorem dX9_from_36 : decode cX9_from 36 = .ok (.if_icmp .ge 26, 3) := by decide +kernel
theorem dX9_from_39 : decode cX9_from 39 = .ok (.aload_n 0, 1) := by decide +kernel
theorem dX9_from_40 : decode cX9_from 40 = .ok (.getfield 7, 3) := by decide +kernel
theorem dX9_from_43 : decode cX9_from 43 = .ok (.iload_n 2, 1) := by decide +kernel
theorem dX9_from_44 : decode cX9_from 44 = .ok (.aload_n 0, 1) := by decide +kernel
theorem dX9_from_45 : decode cX9_from 45 = .ok (.getfield 13, 3) := by decide +kernel
theorem dX9_from_48 : decode cX9_from 48 = .ok (.bipush 118, 2) := by decide +kernel
theorem dX9_from_50 : decode cX9_from 50 = .ok (.iload_n 1, 1) := by decide +kernel
theorem dX9_from_51 : decode cX9_from 51 = .ok (.imul, 1) := by decide +kernel
theorem dX9_from_52 : decode cX9_from 52 = .ok (.iload_n 2, 1) := by decide +kernel
theorem dX9_from_53 : decode cX9_from 53 = .ok (.iadd, 1) := by decide +kernel
theorem dX9_from_54 : decode cX9_from 54 = .ok (.iaload, 1) := by decide +kernel
theorem dX9_from_55 : decode cX9_from 55 = .ok (.iastore, 1) := by decide +kernel
theorem dX9_from_56 : decode cX9_from 56 = .ok (.iinc 2 1, 3) := by decide +kernel
theorem dX9_from_59 : decode cX9_from 59 = .ok (.goto (-26), 3) := by decide +kernel
theorem dX9_from_62 : decode cX9_from 62 = .ok (.iconst 1, 1) := by decide +kernel
theorem dX9_from_63 : decode cX9_from 63 = .ok (.ireturn, 1) := by decide +kernel
theorem dX9_status_0 : decode cX9_status 0 = .ok (.iload_n 1, 1) := by decide +kernel
theorem dX9_status_1 : decode cX9_status 1 = .ok (.i2l, 1) := by decide +kernel
theorem dX9_status_2 : decode cX9_status 2 = .ok (.lconst 0, 1) := by decide +kernel
theorem dX9_status_3 : decode cX9_status 3 = .ok (.ldc2_w 131, 3) := by decide +kernel
theorem dX9_status_6 : decode cX9_status 6 = .ok (.invokestatic 56, 3) := by decide +kernel
theorem dX9_status_9 : decode cX9_status 9 = .ok (.ifCond .eq 12, 3) := by decide +kernel
theorem dX9_status_12 : decode cX9_status 12 = .ok (.aload_n 0, 1) := by decide +kernel
theorem dX9_status_13 : decode cX9_status 13 = .ok (.getfield 20, 3) := by decide +kernel
theorem dX9_status_16 : decode cX9_status 16 = .ok (.iload_n 1, 1) := by decide +kernel
theorem dX9_status_17 : decode cX9_status 17 = .ok (.iaload, 1) := by decide +kernel
theorem dX9_status_18 : decode cX9_status 18 = .ok (.goto 8, 3) := by decide +kernel
theorem dX9_status_21 : decode cX9_status 21 = .ok (.aload_n 0, 1) := by decide +kernel
theorem dX9_status_22 : decode cX9_status 22 = .ok (.iconst (-1), 1) := by decide +kernel
theorem dX9_status_23 : decode cX9_status 23 = .ok (.invokevirtual 64, 3) := by decide +kernel
theorem dX9_status_26 : decode cX9_status 26 = .ok (.ireturn, 1) := by decide +kernel
theorem dX9_manyQuarrels_0 : decode cX9_manyQuarrels 0 = .ok (.iconst 0, 1) := by decide +kernel
theorem dX9_manyQuarrels_1 : decode cX9_manyQuarrels 1 = .ok (.istore_n 1, 1) := by decide +kernel
theorem dX9_manyQuarrels_2 : decode cX9_manyQuarrels 2 = .ok (.iconst 0, 1) := by decide +kernel
theorem dX9_manyQuarrels_3 : decode cX9_manyQuarrels 3 = .ok (.istore_n 2, 1) := by decide +kernel
theorem dX9_manyQuarrels_4 : decode cX9_manyQuarrels 4 = .ok (.iload_n 2, 1) := by decide +kernel
theorem dX9_manyQuarrels_5 : decode cX9_manyQuarrels 5 = .ok (.aload_n 0, 1) := by decide +kernel
theorem dX9_manyQuarrels_6 : decode cX9_manyQuarrels 6 = .ok (.invokevirtual 52, 3) := by decide +kernel
theorem dX9_manyQuarrels_9 : decode cX9_manyQuarrels 9 = .ok (.if_icmp .ge 24, 3) := by decide +kernel
theorem dX9_manyQuarrels_12 : decode cX9_manyQuarrels 12 = .ok (.iload_n 1, 1) := by decide +kernel
theorem dX9_manyQuarrels_13 : decode cX9_manyQuarrels 13 = .ok (.aload_n 0, 1) := by decide +kernel
theorem dX9_manyQuarrels_14 : decode cX9_manyQuarrels 14 = .ok (.getfield 7, 3) := by decide +kernel
theorem dX9_manyQuarrels_17 : decode cX9_manyQuarrels 17 = .ok (.bipush 47, 2) := by decide +kernel
theorem dX9_manyQuarrels_19 : decode cX9_manyQuarrels 19 = .ok (.iload_n 2, 1) := by decide +kernel
theorem dX9_manyQuarrels_20 : decode cX9_manyQuarrels 20 = .ok (.iadd, 1) := by decide +kernel
theorem dX9_manyQuarrels_21 : decode cX9_manyQuarrels 21 = .ok (.iaload, 1) := by decide +kernel
theorem dX9_manyQuarrels_22 : decode cX9_manyQuarrels 22 = .ok (.invokestatic 105, 3) := by decide +kernel
theorem dX9_manyQuarrels_25 : decode cX9_manyQuarrels 25 = .ok (.iadd, 1) := by decide +kernel
theorem dX9_manyQuarrels_26 : decode cX9_manyQuarrels 26 = .ok (.istore_n 1, 1) := by decide +kernel
theorem dX9_manyQuarrels_27 : decode cX9_manyQuarrels 27 = .ok (.iinc 2 1, 3) := by decide +kernel
theorem dX9_manyQuarrels_30 : decode cX9_manyQuarrels 30 = .ok (.goto (-26), 3) := by decide +kernel
theorem dX9_manyQuarrels_33 : decode cX9_manyQuarrels 33 = .ok (.iload_n 1, 1) := by decide +kernel
theorem dX9_manyQuarrels_34 : decode cX9_manyQuarrels 34 = .ok (.iconst 2, 1) := by decide +kernel
theorem dX9_manyQuarrels_35 : decode cX9_manyQuarrels 35 = .ok (.idiv, 1) := by decide +kernel
theorem dX9_manyQuarrels_36 : decode cX9_manyQuarrels 36 = .ok (.ireturn, 1) := by decide +kernel
theorem dX9_manyBridges_0 : decode cX9_manyBridges 0 = .ok (.iconst 0, 1) := by decide +kernel
theorem dX9_manyBridges_1 : decode cX9_manyBridges 1 = .ok (.istore_n 1, 1) := by decide +kernel
theorem dX9_manyBridges_2 : decode cX9_manyBridges 2 = .ok (.iconst 0, 1) := by decide +kernel
theorem dX9_manyBridges_3 : decode cX9_manyBridges 3 = .ok (.istore_n 2, 1) := by decide +kernel
theorem dX9_manyBridges_4 : decode cX9_manyBridges 4 = .ok (.iload_n 2, 1) := by decide +kernel
theorem dX9_manyBridges_5 : decode cX9_manyBridges 5 = .ok (.bipush 10, 2) := by decide +kernel
theorem dX9_manyBridges_7 : decode cX9_manyBridges 7 = .ok (.if_icmp .ge 29, 3) := by decide +kernel
theorem dX9_manyBridges_10 : decode cX9_manyBridges 10 = .ok (.iload_n 1, 1) := by decide +kernel
theorem dX9_manyBridges_11 : decode cX9_manyBridges 11 = .ok (.aload_n 0, 1) := by decide +kernel
theorem dX9_manyBridges_12 : decode cX9_manyBridges 12 = .ok (.getfield 7, 3) := by decide +kernel
theorem dX9_manyBridges_15 : decode cX9_manyBridges 15 = .ok (.bipush 9, 2) := by decide +kernel
theorem dX9_manyBridges_17 : decode cX9_manyBridges 17 = .ok (.iload_n 2, 1) := by decide +kernel
theorem dX9_manyBridges_18 : decode cX9_manyBridges 18 = .ok (.iadd, 1) := by decide +kernel
theorem dX9_manyBridges_19 : decode cX9_manyBridges 19 = .ok (.iaload, 1) := by decide +kernel
theorem dX9_manyBridges_20 : decode cX9_manyBridges 20 = .ok (.ifCond .le 7, 3) := by decide +kernel
theorem dX9_manyBridges_23 : decode cX9_manyBridges 23 = .ok (.iconst 1, 1) := by decide +kernel
theorem dX9_manyBridges_24 : decode cX9_manyBridges 24 = .ok (.goto 4, 3) := by decide +kernel
theorem dX9_manyBridges_27 : decode cX9_manyBridges 27 = .ok (.iconst 0, 1) := by decide +kernel
theorem dX9_manyBridges_28 : decode cX9_manyBridges 28 = .ok (.iadd, 1) := by decide +kernel
theorem dX9_manyBridges_29 : decode cX9_manyBridges 29 = .ok (.istore_n 1, 1) := by decide +kernel
theorem dX9_manyBridges_30 : decode cX9_manyBridges 30 = .ok (.iinc 2 1, 3) := by decide +kernel
theorem dX9_manyBridges_33 : decode cX9_manyBridges 33 = .ok (.goto (-29), 3) := by decide +kernel
theorem dX9_manyBridges_36 : decode cX9_manyBridges 36 = .ok (.iload_n 1, 1) := by decide +kernel
theorem dX9_manyBridges_37 : decode cX9_manyBridges 37 = .ok (.ireturn, 1) := by decide +kernel
theorem dX9_counted_0 : decode cX9_counted 0 = .ok (.iload_n 1, 1) := by decide +kernel
theorem dX9_counted_1 : decode cX9_counted 1 = .ok (.tableswitch 76 0 5 #[39, 44, 52, 57, 62, 69], 39) := by decide +kernel
theorem dX9_counted_40 : decode cX9_counted 40 = .ok (.aload_n 0, 1) := by decide +kernel
theorem dX9_counted_41 : decode cX9_counted 41 = .ok (.invokevirtual 52, 3) := by decide +kernel
theorem dX9_counted_44 : decode cX9_counted 44 = .ok (.ireturn, 1) := by decide +kernel
theorem dX9_counted_45 : decode cX9_counted 45 = .ok (.aload_n 0, 1) := by decide +kernel
theorem dX9_counted_46 : decode cX9_counted 46 = .ok (.getfield 7, 3) := by decide +kernel
theorem dX9_counted_49 : decode cX9_counted 49 = .ok (.bipush 8, 2) := by decide +kernel
theorem dX9_counted_51 : decode cX9_counted 51 = .ok (.iaload, 1) := by decide +kernel
theorem dX9_counted_52 : decode cX9_counted 52 = .ok (.ireturn, 1) := by decide +kernel
theorem dX9_counted_53 : decode cX9_counted 53 = .ok (.aload_n 0, 1) := by decide +kernel
theorem dX9_counted_54 : decode cX9_counted 54 = .ok (.invokevirtual 253, 3) := by decide +kernel
theorem dX9_counted_57 : decode cX9_counted 57 = .ok (.ireturn, 1) := by decide +kernel
theorem dX9_counted_58 : decode cX9_counted 58 = .ok (.aload_n 0, 1) := by decide +kernel
theorem dX9_counted_59 : decode cX9_counted 59 = .ok (.invokevirtual 256, 3) := by decide +kernel
theorem dX9_counted_62 : decode cX9_counted 62 = .ok (.ireturn, 1) := by decide +kernel
theorem dX9_counted_63 : decode cX9_counted 63 = .ok (.aload_n 0, 1) := by decide +kernel
theorem dX9_counted_64 : decode cX9_counted 64 = .ok (.getfield 7, 3) := by decide +kernel
theorem dX9_counted_67 : decode cX9_counted 67 = .ok (.iconst 1, 1) := by decide +kernel
theorem dX9_counted_68 : decode cX9_counted 68 = .ok (.iaload, 1) := by decide +kernel
theorem dX9_counted_69 : decode cX9_counted 69 = .ok (.ireturn, 1) := by decide +kernel
theorem dX9_counted_70 : decode cX9_counted 70 = .ok (.aload_n 0, 1) := by decide +kernel
theorem dX9_counted_71 : decode cX9_counted 71 = .ok (.getfield 7, 3) := by decide +kernel
theorem dX9_counted_74 : decode cX9_counted 74 = .ok (.iconst 2, 1) := by decide +kernel
theorem dX9_counted_75 : decode cX9_counted 75 = .ok (.iaload, 1) := by decide +kernel
theorem dX9_counted_76 : decode cX9_counted 76 = .ok (.ireturn, 1) := by decide +kernel
theorem dX9_counted_77 : decode cX9_counted 77 = .ok (.aload_n 0, 1) := by decide +kernel
theorem dX9_counted_78 : decode cX9_counted 78 = .ok (.getfield 191, 3) := by decide +kernel
theorem dX9_counted_81 : decode cX9_counted 81 = .ok (.ireturn, 1) := by decide +kernel
theorem dX9_count_0 : decode cX9_count 0 = .ok (.iload_n 1, 1) := by decide +kernel
theorem dX9_count_1 : decode cX9_count 1 = .ok (.i2l, 1) := by decide +kernel
theorem dX9_count_2 : decode cX9_count 2 = .ok (.lconst 0, 1) := by decide +kernel
theorem dX9_count_3 : decode cX9_count 3 = .ok (.ldc2_w 259, 3) := by decide +kernel
theorem dX9_count_6 : decode cX9_count 6 = .ok (.invokestatic 56, 3) := by decide +kernel
theorem dX9_count_9 : decode cX9_count 9 = .ok (.ifCond .eq 11, 3) := by decide +kernel
theorem dX9_count_12 : decode cX9_count 12 = .ok (.aload_n 0, 1) := by decide +kernel
theorem dX9_count_13 : decode cX9_count 13 = .ok (.iload_n 1, 1) := by decide +kernel
theorem dX9_count_14 : decode cX9_count 14 = .ok (.invokevirtual 261, 3) := by decide +kernel
theorem dX9_count_17 : decode cX9_count 17 = .ok (.goto 9, 3) := by decide +kernel
theorem dX9_count_20 : decode cX9_count 20 = .ok (.aload_n 0, 1) := by decide +kernel
theorem dX9_count_21 : decode cX9_count 21 = .ok (.bipush (-2), 2) := by decide +kernel
theorem dX9_count_23 : decode cX9_count 23 = .ok (.invokevirtual 64, 3) := by decide +kernel
theorem dX9_count_26 : decode cX9_count 26 = .ok (.ireturn, 1) := by decide +kernel
theorem dX9_sums_0 : decode cX9_sums 0 = .ok (.lload_n 1, 1) := by decide +kernel
theorem dX9_sums_1 : decode cX9_sums 1 = .ok (.lstore 5, 2) := by decide +kernel
theorem dX9_sums_3 : decode cX9_sums 3 = .ok (.iconst 0, 1) := by decide +kernel
theorem dX9_sums_4 : decode cX9_sums 4 = .ok (.istore 7, 2) := by decide +kernel
theorem dX9_sums_6 : decode cX9_sums 6 = .ok (.iload 7, 2) := by decide +kernel
theorem dX9_sums_8 : decode cX9_sums 8 = .ok (.iload 4, 2) := by decide +kernel
theorem dX9_sums_10 : decode cX9_sums 10 = .ok (.if_icmp .ge 28, 3) := by decide +kernel
theorem dX9_sums_13 : decode cX9_sums 13 = .ok (.ldc2_w 264, 3) := by decide +kernel
theorem dX9_sums_16 : decode cX9_sums 16 = .ok (.lload 5, 2) := by decide +kernel
theorem dX9_sums_18 : decode cX9_sums 18 = .ok (.lmul, 1) := by decide +kernel
theorem dX9_sums_19 : decode cX9_sums 19 = .ok (.aload_n 0, 1) := by decide +kernel
theorem dX9_sums_20 : decode cX9_sums 20 = .ok (.getfield 7, 3) := by decide +kernel
theorem dX9_sums_23 : decode cX9_sums 23 = .ok (.iload_n 3, 1) := by decide +kernel
theorem dX9_sums_24 : decode cX9_sums 24 = .ok (.iload 7, 2) := by decide +kernel
theorem dX9_sums_26 : decode cX9_sums 26 = .ok (.iadd, 1) := by decide +kernel
theorem dX9_sums_27 : decode cX9_sums 27 = .ok (.iaload, 1) := by decide +kernel
theorem dX9_sums_28 : decode cX9_sums 28 = .ok (.i2l, 1) := by decide +kernel
theorem dX9_sums_29 : decode cX9_sums 29 = .ok (.ladd, 1) := by decide +kernel
theorem dX9_sums_30 : decode cX9_sums 30 = .ok (.lstore 5, 2) := by decide +kernel
theorem dX9_sums_32 : decode cX9_sums 32 = .ok (.iinc 7 1, 3) := by decide +kernel
theorem dX9_sums_35 : decode cX9_sums 35 = .ok (.goto (-29), 3) := by decide +kernel
theorem dX9_sums_38 : decode cX9_sums 38 = .ok (.lload 5, 2) := by decide +kernel
theorem dX9_sums_40 : decode cX9_sums 40 = .ok (.lreturn, 1) := by decide +kernel
theorem dX9_digest_0 : decode cX9_digest 0 = .ok (.ldc2_w 266, 3) := by decide +kernel
theorem dX9_digest_3 : decode cX9_digest 3 = .ok (.lstore_n 1, 1) := by decide +kernel
theorem dX9_digest_4 : decode cX9_digest 4 = .ok (.iconst 0, 1) := by decide +kernel
theorem dX9_digest_5 : decode cX9_digest 5 = .ok (.istore_n 3, 1) := by decide +kernel
theorem dX9_digest_6 : decode cX9_digest 6 = .ok (.iload_n 3, 1) := by decide +kernel
theorem dX9_digest_7 : decode cX9_digest 7 = .ok (.bipush 7, 2) := by decide +kernel
theorem dX9_digest_9 : decode cX9_digest 9 = .ok (.if_icmp .ge 22, 3) := by decide +kernel
theorem dX9_digest_12 : decode cX9_digest 12 = .ok (.ldc2_w 264, 3) := by decide +kernel
theorem dX9_digest_15 : decode cX9_digest 15 = .ok (.lload_n 1, 1) := by decide +kernel
theorem dX9_digest_16 : decode cX9_digest 16 = .ok (.lmul, 1) := by decide +kernel
theorem dX9_digest_17 : decode cX9_digest 17 = .ok (.aload_n 0, 1) := by decide +kernel
theorem dX9_digest_18 : decode cX9_digest 18 = .ok (.iload_n 3, 1) := by decide +kernel
theorem dX9_digest_19 : decode cX9_digest 19 = .ok (.invokevirtual 261, 3) := by decide +kernel
theorem dX9_digest_22 : decode cX9_digest 22 = .ok (.i2l, 1) := by decide +kernel
theorem dX9_digest_23 : decode cX9_digest 23 = .ok (.ladd, 1) := by decide +kernel
theorem dX9_digest_24 : decode cX9_digest 24 = .ok (.lstore_n 1, 1) := by decide +kernel
theorem dX9_digest_25 : decode cX9_digest 25 = .ok (.iinc 3 1, 3) := by decide +kernel
theorem dX9_digest_28 : decode cX9_digest 28 = .ok (.goto (-22), 3) := by decide +kernel
theorem dX9_digest_31 : decode cX9_digest 31 = .ok (.aload_n 0, 1) := by decide +kernel
theorem dX9_digest_32 : decode cX9_digest 32 = .ok (.lload_n 1, 1) := by decide +kernel
theorem dX9_digest_33 : decode cX9_digest 33 = .ok (.iconst 3, 1) := by decide +kernel
theorem dX9_digest_34 : decode cX9_digest 34 = .ok (.iconst 5, 1) := by decide +kernel
theorem dX9_digest_35 : decode cX9_digest 35 = .ok (.invokevirtual 268, 3) := by decide +kernel
theorem dX9_digest_38 : decode cX9_digest 38 = .ok (.lstore_n 1, 1) := by decide +kernel
theorem dX9_digest_39 : decode cX9_digest 39 = .ok (.aload_n 0, 1) := by decide +kernel
theorem dX9_digest_40 : decode cX9_digest 40 = .ok (.lload_n 1, 1) := by decide +kernel
theorem dX9_digest_41 : decode cX9_digest 41 = .ok (.bipush 9, 2) := by decide +kernel
theorem dX9_digest_43 : decode cX9_digest 43 = .ok (.bipush 10, 2) := by decide +kernel
theorem dX9_digest_45 : decode cX9_digest 45 = .ok (.invokevirtual 268, 3) := by decide +kernel
theorem dX9_digest_48 : decode cX9_digest 48 = .ok (.lstore_n 1, 1) := by decide +kernel
theorem dX9_digest_49 : decode cX9_digest 49 = .ok (.iconst 0, 1) := by decide +kernel
theorem dX9_digest_50 : decode cX9_digest 50 = .ok (.istore_n 3, 1) := by decide +kernel
theorem dX9_digest_51 : decode cX9_digest 51 = .ok (.iload_n 3, 1) := by decide +kernel
theorem dX9_digest_52 : decode cX9_digest 52 = .ok (.aload_n 0, 1) := by decide +kernel
theorem dX9_digest_53 : decode cX9_digest 53 = .ok (.invokevirtual 52, 3) := by decide +kernel
theorem dX9_digest_56 : decode cX9_digest 56 = .ok (.if_icmp .ge 88, 3) := by decide +kernel
theorem dX9_digest_59 : decode cX9_digest 59 = .ok (.ldc2_w 264, 3) := by decide +kernel
theorem dX9_digest_62 : decode cX9_digest 62 = .ok (.ldc2_w 264, 3) := by decide +kernel
theorem dX9_digest_65 : decode cX9_digest 65 = .ok (.lload_n 1, 1) := by decide +kernel
theorem dX9_digest_66 : decode cX9_digest 66 = .ok (.lmul, 1) := by decide +kernel
theorem dX9_digest_67 : decode cX9_digest 67 = .ok (.aload_n 0, 1) := by decide +kernel
theorem dX9_digest_68 : decode cX9_digest 68 = .ok (.getfield 7, 3) := by decide +kernel
theorem dX9_digest_71 : decode cX9_digest 71 = .ok (.bipush 19, 2) := by decide +kernel
theorem dX9_digest_73 : decode cX9_digest 73 = .ok (.iload_n 3, 1) := by decide +kernel
theorem dX9_digest_74 : decode cX9_digest 74 = .ok (.iadd, 1) := by decide +kernel
theorem dX9_digest_75 : decode cX9_digest 75 = .ok (.iaload, 1) := by decide +kernel
theorem dX9_digest_76 : decode cX9_digest 76 = .ok (.i2l, 1) := by decide +kernel
theorem dX9_digest_77 : decode cX9_digest 77 = .ok (.ladd, 1) := by decide +kernel
theorem dX9_digest_78 : decode cX9_digest 78 = .ok (.lmul, 1) := by decide +kernel
theorem dX9_digest_79 : decode cX9_digest 79 = .ok (.aload_n 0, 1) := by decide +kernel
theorem dX9_digest_80 : decode cX9_digest 80 = .ok (.getfield 7, 3) := by decide +kernel
theorem dX9_digest_83 : decode cX9_digest 83 = .ok (.bipush 26, 2) := by decide +kernel
theorem dX9_digest_85 : decode cX9_digest 85 = .ok (.iload_n 3, 1) := by decide +kernel
theorem dX9_digest_86 : decode cX9_digest 86 = .ok (.iadd, 1) := by decide +kernel
theorem dX9_digest_87 : decode cX9_digest 87 = .ok (.iaload, 1) := by decide +kernel
theorem dX9_digest_88 : decode cX9_digest 88 = .ok (.i2l, 1) := by decide +kernel
theorem dX9_digest_89 : decode cX9_digest 89 = .ok (.ladd, 1) := by decide +kernel
theorem dX9_digest_90 : decode cX9_digest 90 = .ok (.lstore_n 1, 1) := by decide +kernel
theorem dX9_digest_91 : decode cX9_digest 91 = .ok (.ldc2_w 264, 3) := by decide +kernel
theorem dX9_digest_94 : decode cX9_digest 94 = .ok (.ldc2_w 264, 3) := by decide +kernel
theorem dX9_digest_97 : decode cX9_digest 97 = .ok (.ldc2_w 264, 3) := by decide +kernel
theorem dX9_digest_100 : decode cX9_digest 100 = .ok (.lload_n 1, 1) := by decide +kernel
theorem dX9_digest_101 : decode cX9_digest 101 = .ok (.lmul, 1) := by decide +kernel
theorem dX9_digest_102 : decode cX9_digest 102 = .ok (.aload_n 0, 1) := by decide +kernel
theorem dX9_digest_103 : decode cX9_digest 103 = .ok (.getfield 7, 3) := by decide +kernel
theorem dX9_digest_106 : decode cX9_digest 106 = .ok (.bipush 33, 2) := by decide +kernel
theorem dX9_digest_108 : decode cX9_digest 108 = .ok (.iload_n 3, 1) := by decide +kernel
theorem dX9_digest_109 : decode cX9_digest 109 = .ok (.iadd, 1) := by decide +kernel
theorem dX9_digest_110 : decode cX9_digest 110 = .ok (.iaload, 1) := by decide +kernel
theorem dX9_digest_111 : decode cX9_digest 111 = .ok (.i2l, 1) := by decide +kernel
theorem dX9_digest_112 : decode cX9_digest 112 = .ok (.ladd, 1) := by decide +kernel
theorem dX9_digest_113 : decode cX9_digest 113 = .ok (.lmul, 1) := by decide +kernel
theorem dX9_digest_114 : decode cX9_digest 114 = .ok (.aload_n 0, 1) := by decide +kernel
theorem dX9_digest_115 : decode cX9_digest 115 = .ok (.getfield 7, 3) := by decide +kernel
theorem dX9_digest_118 : decode cX9_digest 118 = .ok (.bipush 40, 2) := by decide +kernel
theorem dX9_digest_120 : decode cX9_digest 120 = .ok (.iload_n 3, 1) := by decide +kernel
theorem dX9_digest_121 : decode cX9_digest 121 = .ok (.iadd, 1) := by decide +kernel
theorem dX9_digest_122 : decode cX9_digest 122 = .ok (.iaload, 1) := by decide +kernel
theorem dX9_digest_123 : decode cX9_digest 123 = .ok (.i2l, 1) := by decide +kernel
theorem dX9_digest_124 : decode cX9_digest 124 = .ok (.ladd, 1) := by decide +kernel
theorem dX9_digest_125 : decode cX9_digest 125 = .ok (.lmul, 1) := by decide +kernel
theorem dX9_digest_126 : decode cX9_digest 126 = .ok (.aload_n 0, 1) := by decide +kernel
theorem dX9_digest_127 : decode cX9_digest 127 = .ok (.getfield 7, 3) := by decide +kernel
theorem dX9_digest_130 : decode cX9_digest 130 = .ok (.bipush 47, 2) := by decide +kernel
theorem dX9_digest_132 : decode cX9_digest 132 = .ok (.iload_n 3, 1) := by decide +kernel
theorem dX9_digest_133 : decode cX9_digest 133 = .ok (.iadd, 1) := by decide +kernel
theorem dX9_digest_134 : decode cX9_digest 134 = .ok (.iaload, 1) := by decide +kernel
theorem dX9_digest_135 : decode cX9_digest 135 = .ok (.i2l, 1) := by decide +kernel
theorem dX9_digest_136 : decode cX9_digest 136 = .ok (.ladd, 1) := by decide +kernel
theorem dX9_digest_137 : decode cX9_digest 137 = .ok (.lstore_n 1, 1) := by decide +kernel
theorem dX9_digest_138 : decode cX9_digest 138 = .ok (.iinc 3 1, 3) := by decide +kernel
theorem dX9_digest_141 : decode cX9_digest 141 = .ok (.goto (-90), 3) := by decide +kernel
theorem dX9_digest_144 : decode cX9_digest 144 = .ok (.aload_n 0, 1) := by decide +kernel
theorem dX9_digest_145 : decode cX9_digest 145 = .ok (.lload_n 1, 1) := by decide +kernel
theorem dX9_digest_146 : decode cX9_digest 146 = .ok (.bipush 54, 2) := by decide +kernel
theorem dX9_digest_148 : decode cX9_digest 148 = .ok (.iconst 4, 1) := by decide +kernel
theorem dX9_digest_149 : decode cX9_digest 149 = .ok (.aload_n 0, 1) := by decide +kernel
theorem dX9_digest_150 : decode cX9_digest 150 = .ok (.getfield 7, 3) := by decide +kernel
theorem dX9_digest_153 : decode cX9_digest 153 = .ok (.iconst 1, 1) := by decide +kernel
theorem dX9_digest_154 : decode cX9_digest 154 = .ok (.iaload, 1) := by decide +kernel
theorem dX9_digest_155 : decode cX9_digest 155 = .ok (.imul, 1) := by decide +kernel
theorem dX9_digest_156 : decode cX9_digest 156 = .ok (.invokevirtual 268, 3) := by decide +kernel
theorem dX9_digest_159 : decode cX9_digest 159 = .ok (.lstore_n 1, 1) := by decide +kernel
theorem dX9_digest_160 : decode cX9_digest 160 = .ok (.ldc2_w 264, 3) := by decide +kernel
theorem dX9_digest_163 : decode cX9_digest 163 = .ok (.ldc2_w 264, 3) := by decide +kernel
theorem dX9_digest_166 : decode cX9_digest 166 = .ok (.lload_n 1, 1) := by decide +kernel
theorem dX9_digest_167 : decode cX9_digest 167 = .ok (.lmul, 1) := by decide +kernel
theorem dX9_digest_168 : decode cX9_digest 168 = .ok (.aload_n 0, 1) := by decide +kernel
theorem dX9_digest_169 : decode cX9_digest 169 = .ok (.getfield 159, 3) := by decide +kernel
theorem dX9_digest_172 : decode cX9_digest 172 = .ok (.ladd, 1) := by decide +kernel
theorem dX9_digest_173 : decode cX9_digest 173 = .ok (.lmul, 1) := by decide +kernel
theorem dX9_digest_174 : decode cX9_digest 174 = .ok (.aload_n 0, 1) := by decide +kernel
theorem dX9_digest_175 : decode cX9_digest 175 = .ok (.getfield 23, 3) := by decide +kernel
theorem dX9_digest_178 : decode cX9_digest 178 = .ok (.ladd, 1) := by decide +kernel
theorem dX9_digest_179 : decode cX9_digest 179 = .ok (.lreturn, 1) := by decide +kernel
theorem dJ6_bitCount_0f7a4_0 : decode cJ6_bitCount_0f7a4 0 = .ok (.iload_n 0, 1) := by decide +kernel
theorem dJ6_bitCount_0f7a4_1 : decode cJ6_bitCount_0f7a4 1 = .ok (.iload_n 0, 1) := by decide +kernel
theorem dJ6_bitCount_0f7a4_2 : decode cJ6_bitCount_0f7a4 2 = .ok (.iconst 1, 1) := by decide +kernel
theorem dJ6_bitCount_0f7a4_3 : decode cJ6_bitCount_0f7a4 3 = .ok (.iushr, 1) := by decide +kernel
theorem dJ6_bitCount_0f7a4_4 : decode cJ6_bitCount_0f7a4 4 = .ok (.ldc_w 265, 3) := by decide +kernel
theorem dJ6_bitCount_0f7a4_7 : decode cJ6_bitCount_0f7a4 7 = .ok (.iand, 1) := by decide +kernel
theorem dJ6_bitCount_0f7a4_8 : decode cJ6_bitCount_0f7a4 8 = .ok (.isub, 1) := by decide +kernel
theorem dJ6_bitCount_0f7a4_9 : decode cJ6_bitCount_0f7a4 9 = .ok (.istore_n 0, 1) := by decide +kernel
theorem dJ6_bitCount_0f7a4_10 : decode cJ6_bitCount_0f7a4 10 = .ok (.iload_n 0, 1) := by decide +kernel
theorem dJ6_bitCount_0f7a4_11 : decode cJ6_bitCount_0f7a4 11 = .ok (.ldc_w 266, 3) := by decide +kernel
theorem dJ6_bitCount_0f7a4_14 : decode cJ6_bitCount_0f7a4 14 = .ok (.iand, 1) := by decide +kernel
theorem dJ6_bitCount_0f7a4_15 : decode cJ6_bitCount_0f7a4 15 = .ok (.iload_n 0, 1) := by decide +kernel
theorem dJ6_bitCount_0f7a4_16 : decode cJ6_bitCount_0f7a4 16 = .ok (.iconst 2, 1) := by decide +kernel
theorem dJ6_bitCount_0f7a4_17 : decode cJ6_bitCount_0f7a4 17 = .ok (.iushr, 1) := by decide +kernel
theorem dJ6_bitCount_0f7a4_18 : decode cJ6_bitCount_0f7a4 18 = .ok (.ldc_w 266, 3) := by decide +kernel
theorem dJ6_bitCount_0f7a4_21 : decode cJ6_bitCount_0f7a4 21 = .ok (.iand, 1) := by decide +kernel
theorem dJ6_bitCount_0f7a4_22 : decode cJ6_bitCount_0f7a4 22 = .ok (.iadd, 1) := by decide +kernel
theorem dJ6_bitCount_0f7a4_23 : decode cJ6_bitCount_0f7a4 23 = .ok (.istore_n 0, 1) := by decide +kernel
theorem dJ6_bitCount_0f7a4_24 : decode cJ6_bitCount_0f7a4 24 = .ok (.iload_n 0, 1) := by decide +kernel
theorem dJ6_bitCount_0f7a4_25 : decode cJ6_bitCount_0f7a4 25 = .ok (.iload_n 0, 1) := by decide +kernel
theorem dJ6_bitCount_0f7a4_26 : decode cJ6_bitCount_0f7a4 26 = .ok (.iconst 4, 1) := by decide +kernel
theorem dJ6_bitCount_0f7a4_27 : decode cJ6_bitCount_0f7a4 27 = .ok (.iushr, 1) := by decide +kernel
theorem dJ6_bitCount_0f7a4_28 : decode cJ6_bitCount_0f7a4 28 = .ok (.iadd, 1) := by decide +kernel
theorem dJ6_bitCount_0f7a4_29 : decode cJ6_bitCount_0f7a4 29 = .ok (.ldc_w 267, 3) := by decide +kernel
theorem dJ6_bitCount_0f7a4_32 : decode cJ6_bitCount_0f7a4 32 = .ok (.iand, 1) := by decide +kernel
theorem dJ6_bitCount_0f7a4_33 : decode cJ6_bitCount_0f7a4 33 = .ok (.istore_n 0, 1) := by decide +kernel
theorem dJ6_bitCount_0f7a4_34 : decode cJ6_bitCount_0f7a4 34 = .ok (.iload_n 0, 1) := by decide +kernel
theorem dJ6_bitCount_0f7a4_35 : decode cJ6_bitCount_0f7a4 35 = .ok (.iload_n 0, 1) := by decide +kernel
theorem dJ6_bitCount_0f7a4_36 : decode cJ6_bitCount_0f7a4 36 = .ok (.bipush 8, 2) := by decide +kernel
theorem dJ6_bitCount_0f7a4_38 : decode cJ6_bitCount_0f7a4 38 = .ok (.iushr, 1) := by decide +kernel
theorem dJ6_bitCount_0f7a4_39 : decode cJ6_bitCount_0f7a4 39 = .ok (.iadd, 1) := by decide +kernel
theorem dJ6_bitCount_0f7a4_40 : decode cJ6_bitCount_0f7a4 40 = .ok (.istore_n 0, 1) := by decide +kernel
theorem dJ6_bitCount_0f7a4_41 : decode cJ6_bitCount_0f7a4 41 = .ok (.iload_n 0, 1) := by decide +kernel
theorem dJ6_bitCount_0f7a4_42 : decode cJ6_bitCount_0f7a4 42 = .ok (.iload_n 0, 1) := by decide +kernel
theorem dJ6_bitCount_0f7a4_43 : decode cJ6_bitCount_0f7a4 43 = .ok (.bipush 16, 2) := by decide +kernel
theorem dJ6_bitCount_0f7a4_45 : decode cJ6_bitCount_0f7a4 45 = .ok (.iushr, 1) := by decide +kernel
theorem dJ6_bitCount_0f7a4_46 : decode cJ6_bitCount_0f7a4 46 = .ok (.iadd, 1) := by decide +kernel
theorem dJ6_bitCount_0f7a4_47 : decode cJ6_bitCount_0f7a4 47 = .ok (.istore_n 0, 1) := by decide +kernel
theorem dJ6_bitCount_0f7a4_48 : decode cJ6_bitCount_0f7a4 48 = .ok (.iload_n 0, 1) := by decide +kernel
theorem dJ6_bitCount_0f7a4_49 : decode cJ6_bitCount_0f7a4 49 = .ok (.bipush 63, 2) := by decide +kernel
theorem dJ6_bitCount_0f7a4_51 : decode cJ6_bitCount_0f7a4 51 = .ok (.iand, 1) := by decide +kernel
theorem dJ6_bitCount_0f7a4_52 : decode cJ6_bitCount_0f7a4 52 = .ok (.ireturn, 1) := by decide +kernel
theorem dJ9_max_7cf53_0 : decode cJ9_max_7cf53 0 = .ok (.iload_n 0, 1) := by decide +kernel
theorem dJ9_max_7cf53_1 : decode cJ9_max_7cf53 1 = .ok (.iload_n 1, 1) := by decide +kernel
theorem dJ9_max_7cf53_2 : decode cJ9_max_7cf53 2 = .ok (.if_icmp .lt 7, 3) := by decide +kernel
theorem dJ9_max_7cf53_5 : decode cJ9_max_7cf53 5 = .ok (.iload_n 0, 1) := by decide +kernel
theorem dJ9_max_7cf53_6 : decode cJ9_max_7cf53 6 = .ok (.goto 4, 3) := by decide +kernel
theorem dJ9_max_7cf53_9 : decode cJ9_max_7cf53 9 = .ok (.iload_n 1, 1) := by decide +kernel
theorem dJ9_max_7cf53_10 : decode cJ9_max_7cf53 10 = .ok (.ireturn, 1) := by decide +kernel
theorem dJ9_min_7cf53_0 : decode cJ9_min_7cf53 0 = .ok (.iload_n 0, 1) := by decide +kernel
theorem dJ9_min_7cf53_1 : decode cJ9_min_7cf53 1 = .ok (.iload_n 1, 1) := by decide +kernel
theorem dJ9_min_7cf53_2 : decode cJ9_min_7cf53 2 = .ok (.if_icmp .gt 7, 3) := by decide +kernel
theorem dJ9_min_7cf53_5 : decode cJ9_min_7cf53 5 = .ok (.iload_n 0, 1) := by decide +kernel
theorem dJ9_min_7cf53_6 : decode cJ9_min_7cf53 6 = .ok (.goto 4, 3) := by decide +kernel
theorem dJ9_min_7cf53_9 : decode cJ9_min_7cf53 9 = .ok (.iload_n 1, 1) := by decide +kernel
theorem dJ9_min_7cf53_10 : decode cJ9_min_7cf53 10 = .ok (.ireturn, 1) := by decide +kernel
theorem dJ0_length_8abf5_0 : decode cJ0_length_8abf5 0 = .ok (.aload_n 0, 1) := by decide +kernel
theorem dJ0_length_8abf5_1 : decode cJ0_length_8abf5 1 = .ok (.getfield 9, 3) := by decide +kernel
theorem dJ0_length_8abf5_4 : decode cJ0_length_8abf5 4 = .ok (.arraylength, 1) := by decide +kernel
theorem dJ0_length_8abf5_5 : decode cJ0_length_8abf5 5 = .ok (.aload_n 0, 1) := by decide +kernel
theorem dJ0_length_8abf5_6 : decode cJ0_length_8abf5 6 = .ok (.invokevirtual 335, 3) := by decide +kernel
theorem dJ0_length_8abf5_9 : decode cJ0_length_8abf5 9 = .ok (.ishr, 1) := by decide +kernel
theorem dJ0_length_8abf5_10 : decode cJ0_length_8abf5 10 = .ok (.ireturn, 1) := by decide +kernel
theorem dJ0_charAt_5068e_0 : decode cJ0_charAt_5068e 0 = .ok (.aload_n 0, 1) := by decide +kernel
theorem dJ0_charAt_5068e_1 : decode cJ0_charAt_5068e 1 = .ok (.invokevirtual 492, 3) := by decide +kernel
theorem dJ0_charAt_5068e_4 : decode cJ0_charAt_5068e 4 = .ok (.ifCond .eq 12, 3) := by decide +kernel
theorem dJ0_charAt_5068e_7 : decode cJ0_charAt_5068e 7 = .ok (.aload_n 0, 1) := by decide +kernel
theorem dJ0_charAt_5068e_8 : decode cJ0_charAt_5068e 8 = .ok (.getfield 9, 3) := by decide +kernel
theorem dJ0_charAt_5068e_11 : decode cJ0_charAt_5068e 11 = .ok (.iload_n 1, 1) := by decide +kernel
theorem dJ0_charAt_5068e_12 : decode cJ0_charAt_5068e 12 = .ok (.invokestatic 495, 3) := by decide +kernel
theorem dJ0_charAt_5068e_15 : decode cJ0_charAt_5068e 15 = .ok (.ireturn, 1) := by decide +kernel
theorem dJ0_charAt_5068e_16 : decode cJ0_charAt_5068e 16 = .ok (.aload_n 0, 1) := by decide +kernel
theorem dJ0_charAt_5068e_17 : decode cJ0_charAt_5068e 17 = .ok (.getfield 9, 3) := by decide +kernel
theorem dJ0_charAt_5068e_20 : decode cJ0_charAt_5068e 20 = .ok (.iload_n 1, 1) := by decide +kernel
theorem dJ0_charAt_5068e_21 : decode cJ0_charAt_5068e 21 = .ok (.invokestatic 498, 3) := by decide +kernel
theorem dJ0_charAt_5068e_24 : decode cJ0_charAt_5068e 24 = .ok (.ireturn, 1) := by decide +kernel
theorem dJ0_coder_7d493_0 : decode cJ0_coder_7d493 0 = .ok (.getstatic 38, 3) := by decide +kernel
theorem dJ0_coder_7d493_3 : decode cJ0_coder_7d493 3 = .ok (.ifCond .eq 10, 3) := by decide +kernel
theorem dJ0_coder_7d493_6 : decode cJ0_coder_7d493 6 = .ok (.aload_n 0, 1) := by decide +kernel
theorem dJ0_coder_7d493_7 : decode cJ0_coder_7d493 7 = .ok (.getfield 15, 3) := by decide +kernel
theorem dJ0_coder_7d493_10 : decode cJ0_coder_7d493 10 = .ok (.goto 4, 3) := by decide +kernel
theorem dJ0_coder_7d493_13 : decode cJ0_coder_7d493 13 = .ok (.iconst 1, 1) := by decide +kernel
theorem dJ0_coder_7d493_14 : decode cJ0_coder_7d493 14 = .ok (.ireturn, 1) := by decide +kernel
theorem dJ0_isLatin1_aae02_0 : decode cJ0_isLatin1_aae02 0 = .ok (.getstatic 38, 3) := by decide +kernel
theorem dJ0_isLatin1_aae02_3 : decode cJ0_isLatin1_aae02 3 = .ok (.ifCond .eq 14, 3) := by decide +kernel
theorem dJ0_isLatin1_aae02_6 : decode cJ0_isLatin1_aae02 6 = .ok (.aload_n 0, 1) := by decide +kernel
theorem dJ0_isLatin1_aae02_7 : decode cJ0_isLatin1_aae02 7 = .ok (.getfield 15, 3) := by decide +kernel
theorem dJ0_isLatin1_aae02_10 : decode cJ0_isLatin1_aae02 10 = .ok (.ifCond .ne 7, 3) := by decide +kernel
theorem dJ0_isLatin1_aae02_13 : decode cJ0_isLatin1_aae02 13 = .ok (.iconst 1, 1) := by decide +kernel
theorem dJ0_isLatin1_aae02_14 : decode cJ0_isLatin1_aae02 14 = .ok (.goto 4, 3) := by decide +kernel
theorem dJ0_isLatin1_aae02_17 : decode cJ0_isLatin1_aae02 17 = .ok (.iconst 0, 1) := by decide +kernel
theorem dJ0_isLatin1_aae02_18 : decode cJ0_isLatin1_aae02 18 = .ok (.ireturn, 1) := by decide +kernel
theorem dJ0_checkIndex_df160_0 : decode cJ0_checkIndex_df160 0 = .ok (.iload_n 0, 1) := by decide +kernel
theorem dJ0_checkIndex_df160_1 : decode cJ0_checkIndex_df160 1 = .ok (.iload_n 1, 1) := by decide +kernel
theorem dJ0_checkIndex_df160_2 : decode cJ0_checkIndex_df160 2 = .ok (.getstatic 1053, 3) := by decide +kernel
theorem dJ0_checkIndex_df160_5 : decode cJ0_checkIndex_df160 5 = .ok (.invokestatic 1059, 3) := by decide +kernel
theorem dJ0_checkIndex_df160_8 : decode cJ0_checkIndex_df160 8 = .ok (.pop, 1) := by decide +kernel
theorem dJ0_checkIndex_df160_9 : decode cJ0_checkIndex_df160 9 = .ok (.return_, 1) := by decide +kernel
theorem dJ1_charAt_3b067_0 : decode cJ1_charAt_3b067 0 = .ok (.iload_n 1, 1) := by decide +kernel
theorem dJ1_charAt_3b067_1 : decode cJ1_charAt_3b067 1 = .ok (.aload_n 0, 1) := by decide +kernel
theorem dJ1_charAt_3b067_2 : decode cJ1_charAt_3b067 2 = .ok (.arraylength, 1) := by decide +kernel
theorem dJ1_charAt_3b067_3 : decode cJ1_charAt_3b067 3 = .ok (.invokestatic 9, 3) := by decide +kernel
theorem dJ1_charAt_3b067_6 : decode cJ1_charAt_3b067 6 = .ok (.aload_n 0, 1) := by decide +kernel
theorem dJ1_charAt_3b067_7 : decode cJ1_charAt_3b067 7 = .ok (.iload_n 1, 1) := by decide +kernel
theorem dJ1_charAt_3b067_8 : decode cJ1_charAt_3b067 8 = .ok (.baload, 1) := by decide +kernel
theorem dJ1_charAt_3b067_9 : decode cJ1_charAt_3b067 9 = .ok (.sipush 255, 3) := by decide +kernel
theorem dJ1_charAt_3b067_12 : decode cJ1_charAt_3b067 12 = .ok (.iand, 1) := by decide +kernel
theorem dJ1_charAt_3b067_13 : decode cJ1_charAt_3b067 13 = .ok (.i2c, 1) := by decide +kernel
theorem dJ1_charAt_3b067_14 : decode cJ1_charAt_3b067 14 = .ok (.ireturn, 1) := by decide +kernel
theorem dJ2_getChar_3b067_0 : decode cJ2_getChar_3b067 0 = .ok (.getstatic 44, 3) := by decide +kernel
theorem dJ2_getChar_3b067_3 : decode cJ2_getChar_3b067 3 = .ok (.ifCond .ne 25, 3) := by decide +kernel
theorem dJ2_getChar_3b067_6 : decode cJ2_getChar_3b067 6 = .ok (.iload_n 1, 1) := by decide +kernel
theorem dJ2_getChar_3b067_7 : decode cJ2_getChar_3b067 7 = .ok (.ifCond .lt 11, 3) := by decide +kernel
theorem dJ2_getChar_3b067_10 : decode cJ2_getChar_3b067 10 = .ok (.iload_n 1, 1) := by decide +kernel
theorem dJ2_getChar_3b067_11 : decode cJ2_getChar_3b067 11 = .ok (.aload_n 0, 1) := by decide +kernel
theorem dJ2_getChar_3b067_12 : decode cJ2_getChar_3b067 12 = .ok (.invokestatic 48, 3) := by decide +kernel
theorem dJ2_getChar_3b067_15 : decode cJ2_getChar_3b067 15 = .ok (.if_icmp .lt 13, 3) := by decide +kernel
theorem dJ2_getChar_3b067_18 : decode cJ2_getChar_3b067 18 = .ok (.new 52, 3) := by decide +kernel
theorem dJ2_getChar_3b067_21 : decode cJ2_getChar_3b067 21 = .ok (.dup, 1) := by decide +kernel
theorem dJ2_getChar_3b067_22 : decode cJ2_getChar_3b067 22 = .ok (.ldc 54, 2) := by decide +kernel
theorem dJ2_getChar_3b067_24 : decode cJ2_getChar_3b067 24 = .ok (.invokespecial 56, 3) := by decide +kernel
theorem dJ2_getChar_3b067_27 : decode cJ2_getChar_3b067 27 = .ok (.athrow, 1) := by decide +kernel
theorem dJ2_getChar_3b067_28 : decode cJ2_getChar_3b067 28 = .ok (.iload_n 1, 1) := by decide +kernel
theorem dJ2_getChar_3b067_29 : decode cJ2_getChar_3b067 29 = .ok (.iconst 1, 1) := by decide +kernel
theorem dJ2_getChar_3b067_30 : decode cJ2_getChar_3b067 30 = .ok (.ishl, 1) := by decide +kernel
theorem dJ2_getChar_3b067_31 : decode cJ2_getChar_3b067 31 = .ok (.istore_n 1, 1) := by decide +kernel
theorem dJ2_getChar_3b067_32 : decode cJ2_getChar_3b067 32 = .ok (.aload_n 0, 1) := by decide +kernel
theorem dJ2_getChar_3b067_33 : decode cJ2_getChar_3b067 33 = .ok (.iload_n 1, 1) := by decide +kernel
theorem dJ2_getChar_3b067_34 : decode cJ2_getChar_3b067 34 = .ok (.iinc 1 1, 3) := by decide +kernel
theorem dJ2_getChar_3b067_37 : decode cJ2_getChar_3b067 37 = .ok (.baload, 1) := by decide +kernel
theorem dJ2_getChar_3b067_38 : decode cJ2_getChar_3b067 38 = .ok (.sipush 255, 3) := by decide +kernel
theorem dJ2_getChar_3b067_41 : decode cJ2_getChar_3b067 41 = .ok (.iand, 1) := by decide +kernel
theorem dJ2_getChar_3b067_42 : decode cJ2_getChar_3b067 42 = .ok (.getstatic 59, 3) := by decide +kernel
theorem dJ2_getChar_3b067_45 : decode cJ2_getChar_3b067 45 = .ok (.ishl, 1) := by decide +kernel
theorem dJ2_getChar_3b067_46 : decode cJ2_getChar_3b067 46 = .ok (.aload_n 0, 1) := by decide +kernel
theorem dJ2_getChar_3b067_47 : decode cJ2_getChar_3b067 47 = .ok (.iload_n 1, 1) := by decide +kernel
theorem dJ2_getChar_3b067_48 : decode cJ2_getChar_3b067 48 = .ok (.baload, 1) := by decide +kernel
theorem dJ2_getChar_3b067_49 : decode cJ2_getChar_3b067 49 = .ok (.sipush 255, 3) := by decide +kernel
theorem dJ2_getChar_3b067_52 : decode cJ2_getChar_3b067 52 = .ok (.iand, 1) := by decide +kernel
theorem dJ2_getChar_3b067_53 : decode cJ2_getChar_3b067 53 = .ok (.getstatic 63, 3) := by decide +kernel
theorem dJ2_getChar_3b067_56 : decode cJ2_getChar_3b067 56 = .ok (.ishl, 1) := by decide +kernel
theorem dJ2_getChar_3b067_57 : decode cJ2_getChar_3b067 57 = .ok (.ior, 1) := by decide +kernel
theorem dJ2_getChar_3b067_58 : decode cJ2_getChar_3b067 58 = .ok (.i2c, 1) := by decide +kernel
theorem dJ2_getChar_3b067_59 : decode cJ2_getChar_3b067 59 = .ok (.ireturn, 1) := by decide +kernel
theorem dJ2_length_9d52b_0 : decode cJ2_length_9d52b 0 = .ok (.aload_n 0, 1) := by decide +kernel
theorem dJ2_length_9d52b_1 : decode cJ2_length_9d52b 1 = .ok (.arraylength, 1) := by decide +kernel
theorem dJ2_length_9d52b_2 : decode cJ2_length_9d52b 2 = .ok (.iconst 1, 1) := by decide +kernel
theorem dJ2_length_9d52b_3 : decode cJ2_length_9d52b 3 = .ok (.ishr, 1) := by decide +kernel
theorem dJ2_length_9d52b_4 : decode cJ2_length_9d52b 4 = .ok (.ireturn, 1) := by decide +kernel
theorem dJ2_charAt_3b067_0 : decode cJ2_charAt_3b067 0 = .ok (.iload_n 1, 1) := by decide +kernel
theorem dJ2_charAt_3b067_1 : decode cJ2_charAt_3b067 1 = .ok (.aload_n 0, 1) := by decide +kernel
theorem dJ2_charAt_3b067_2 : decode cJ2_charAt_3b067 2 = .ok (.invokestatic 67, 3) := by decide +kernel
theorem dJ2_charAt_3b067_5 : decode cJ2_charAt_3b067 5 = .ok (.aload_n 0, 1) := by decide +kernel
theorem dJ2_charAt_3b067_6 : decode cJ2_charAt_3b067 6 = .ok (.iload_n 1, 1) := by decide +kernel
theorem dJ2_charAt_3b067_7 : decode cJ2_charAt_3b067 7 = .ok (.invokestatic 71, 3) := by decide +kernel
theorem dJ2_charAt_3b067_10 : decode cJ2_charAt_3b067 10 = .ok (.ireturn, 1) := by decide +kernel
theorem dJ2_checkIndex_2214a_0 : decode cJ2_checkIndex_2214a 0 = .ok (.iload_n 0, 1) := by decide +kernel
theorem dJ2_checkIndex_2214a_1 : decode cJ2_checkIndex_2214a 1 = .ok (.aload_n 1, 1) := by decide +kernel
theorem dJ2_checkIndex_2214a_2 : decode cJ2_checkIndex_2214a 2 = .ok (.invokestatic 48, 3) := by decide +kernel
theorem dJ2_checkIndex_2214a_5 : decode cJ2_checkIndex_2214a 5 = .ok (.invokestatic 414, 3) := by decide +kernel
theorem dJ2_checkIndex_2214a_8 : decode cJ2_checkIndex_2214a 8 = .ok (.return_, 1) := by decide +kernel
theorem dJ3_checkIndex_8e157_0 : decode cJ3_checkIndex_8e157 0 = .ok (.iload_n 0, 1) := by decide +kernel
theorem dJ3_checkIndex_8e157_1 : decode cJ3_checkIndex_8e157 1 = .ok (.ifCond .lt 8, 3) := by decide +kernel
theorem dJ3_checkIndex_8e157_4 : decode cJ3_checkIndex_8e157 4 = .ok (.iload_n 0, 1) := by decide +kernel
theorem dJ3_checkIndex_8e157_5 : decode cJ3_checkIndex_8e157 5 = .ok (.iload_n 1, 1) := by decide +kernel
theorem dJ3_checkIndex_8e157_6 : decode cJ3_checkIndex_8e157 6 = .ok (.if_icmp .lt 10, 3) := by decide +kernel
theorem dJ3_checkIndex_8e157_9 : decode cJ3_checkIndex_8e157 9 = .ok (.aload_n 2, 1) := by decide +kernel
theorem dJ3_checkIndex_8e157_10 : decode cJ3_checkIndex_8e157 10 = .ok (.iload_n 0, 1) := by decide +kernel
theorem dJ3_checkIndex_8e157_11 : decode cJ3_checkIndex_8e157 11 = .ok (.iload_n 1, 1) := by decide +kernel
theorem dJ3_checkIndex_8e157_12 : decode cJ3_checkIndex_8e157 12 = .ok (.invokestatic 95, 3) := by decide +kernel
theorem dJ3_checkIndex_8e157_15 : decode cJ3_checkIndex_8e157 15 = .ok (.athrow, 1) := by decide +kernel
theorem dJ3_checkIndex_8e157_16 : decode cJ3_checkIndex_8e157 16 = .ok (.iload_n 0, 1) := by decide +kernel
theorem dJ3_checkIndex_8e157_17 : decode cJ3_checkIndex_8e157 17 = .ok (.ireturn, 1) := by decide +kernel
theorem dL_law_0 : decode cL_law 0 = .ok (.new 7, 3) := by decide +kernel
theorem dL_law_3 : decode cL_law 3 = .ok (.dup, 1) := by decide +kernel
theorem dL_law_4 : decode cL_law 4 = .ok (.invokespecial 9, 3) := by decide +kernel
theorem dL_law_7 : decode cL_law 7 = .ok (.astore_n 1, 1) := by decide +kernel
theorem dL_law_8 : decode cL_law 8 = .ok (.new 10, 3) := by decide +kernel
theorem dL_law_11 : decode cL_law 11 = .ok (.dup, 1) := by decide +kernel
theorem dL_law_12 : decode cL_law 12 = .ok (.invokespecial 12, 3) := by decide +kernel
theorem dL_law_15 : decode cL_law 15 = .ok (.astore_n 2, 1) := by decide +kernel
theorem dL_law_16 : decode cL_law 16 = .ok (.iconst 0, 1) := by decide +kernel
theorem dL_law_17 : decode cL_law 17 = .ok (.istore_n 3, 1) := by decide +kernel
theorem dL_law_18 : decode cL_law 18 = .ok (.iload_n 3, 1) := by decide +kernel
theorem dL_law_19 : decode cL_law 19 = .ok (.aload_n 0, 1) := by decide +kernel
theorem dL_law_20 : decode cL_law 20 = .ok (.arraylength, 1) := by decide +kernel
theorem dL_law_21 : decode cL_law 21 = .ok (.iconst 5, 1) := by decide +kernel
theorem dL_law_22 : decode cL_law 22 = .ok (.isub, 1) := by decide +kernel
theorem dL_law_23 : decode cL_law 23 = .ok (.if_icmp .gt 1061, 3) := by decide +kernel
theorem dL_law_26 : decode cL_law 26 = .ok (.aload_n 0, 1) := by decide +kernel
theorem dL_law_27 : decode cL_law 27 = .ok (.iload_n 3, 1) := by decide +kernel
theorem dL_law_28 : decode cL_law 28 = .ok (.iaload, 1) := by decide +kernel
theorem dL_law_29 : decode cL_law 29 = .ok (.bipush 63, 2) := by decide +kernel
theorem dL_law_31 : decode cL_law 31 = .ok (.iand, 1) := by decide +kernel
theorem dL_law_32 : decode cL_law 32 = .ok (.tableswitch 1046 0 33 #[152, 175, 198, 231, 284, 327, 350, 363, 376, 399, 422, 435, 468, 511, 534, 567, 590, 613, 626, 639, 682, 735, 748, 771, 794, 817, 860, 883, 916, 940, 963, 986, 1009, 1032], 152) := by decide +kernel
theorem dL_law_184 : decode cL_law 184 = .ok (.aload_n 1, 1) := by decide +kernel
theorem dL_law_185 : decode cL_law 185 = .ok (.aload_n 0, 1) := by decide +kernel
theorem dL_law_186 : decode cL_law 186 = .ok (.iload_n 3, 1) := by decide +kernel
theorem dL_law_187 : decode cL_law 187 = .ok (.iconst 1, 1) := by decide +kernel
theorem dL_law_188 : decode cL_law 188 = .ok (.iadd, 1) := by decide +kernel
theorem dL_law_189 : decode cL_law 189 = .ok (.iaload, 1) := by decide +kernel
theorem dL_law_190 : decode cL_law 190 = .ok (.invokevirtual 13, 3) := by decide +kernel
theorem dL_law_193 : decode cL_law 193 = .ok (.aload_n 2, 1) := by decide +kernel
theorem dL_law_194 : decode cL_law 194 = .ok (.aload_n 0, 1) := by decide +kernel
theorem dL_law_195 : decode cL_law 195 = .ok (.iload_n 3, 1) := by decide +kernel
theorem dL_law_196 : decode cL_law 196 = .ok (.iconst 1, 1) := by decide +kernel
theorem dL_law_197 : decode cL_law 197 = .ok (.iadd, 1) := by decide +kernel
theorem dL_law_198 : decode cL_law 198 = .ok (.iaload, 1) := by decide +kernel
theorem dL_law_199 : decode cL_law 199 = .ok (.invokevirtual 17, 3) := by decide +kernel
theorem dL_law_202 : decode cL_law 202 = .ok (.if_icmp .eq 876, 3) := by decide +kernel
theorem dL_law_205 : decode cL_law 205 = .ok (.iconst 0, 1) := by decide +kernel
theorem dL_law_206 : decode cL_law 206 = .ok (.ireturn, 1) := by decide +kernel
theorem dL_law_207 : decode cL_law 207 = .ok (.aload_n 1, 1) := by decide +kernel
theorem dL_law_208 : decode cL_law 208 = .ok (.aload_n 0, 1) := by decide +kernel
theorem dL_law_209 : decode cL_law 209 = .ok (.iload_n 3, 1) := by decide +kernel
theorem dL_law_210 : decode cL_law 210 = .ok (.iconst 1, 1) := by decide +kernel
theorem dL_law_211 : decode cL_law 211 = .ok (.iadd, 1) := by decide +kernel
theorem dL_law_212 : decode cL_law 212 = .ok (.iaload, 1) := by decide +kernel
theorem dL_law_213 : decode cL_law 213 = .ok (.invokevirtual 18, 3) := by decide +kernel
theorem dL_law_216 : decode cL_law 216 = .ok (.aload_n 2, 1) := by decide +kernel
theorem dL_law_217 : decode cL_law 217 = .ok (.aload_n 0, 1) := by decide +kernel
theorem dL_law_218 : decode cL_law 218 = .ok (.iload_n 3, 1) := by decide +kernel
theorem dL_law_219 : decode cL_law 219 = .ok (.iconst 1, 1) := by decide +kernel
theorem dL_law_220 : decode cL_law 220 = .ok (.iadd, 1) := by decide +kernel
theorem dL_law_221 : decode cL_law 221 = .ok (.iaload, 1) := by decide +kernel
theorem dL_law_222 : decode cL_law 222 = .ok (.invokevirtual 21, 3) := by decide +kernel
theorem dL_law_225 : decode cL_law 225 = .ok (.if_icmp .eq 853, 3) := by decide +kernel
theorem dL_law_228 : decode cL_law 228 = .ok (.iconst 0, 1) := by decide +kernel
theorem dL_law_229 : decode cL_law 229 = .ok (.ireturn, 1) := by decide +kernel
theorem dL_law_230 : decode cL_law 230 = .ok (.aload_n 1, 1) := by decide +kernel
theorem dL_law_231 : decode cL_law 231 = .ok (.aload_n 0, 1) := by decide +kernel
theorem dL_law_232 : decode cL_law 232 = .ok (.iload_n 3, 1) := by decide +kernel
theorem dL_law_233 : decode cL_law 233 = .ok (.iconst 1, 1) := by decide +kernel
theorem dL_law_234 : decode cL_law 234 = .ok (.iadd, 1) := by decide +kernel
theorem dL_law_235 : decode cL_law 235 = .ok (.iaload, 1) := by decide +kernel
theorem dL_law_236 : decode cL_law 236 = .ok (.aload_n 0, 1) := by decide +kernel
theorem dL_law_237 : decode cL_law 237 = .ok (.iload_n 3, 1) := by decide +kernel
theorem dL_law_238 : decode cL_law 238 = .ok (.iconst 2, 1) := by decide +kernel
theorem dL_law_239 : decode cL_law 239 = .ok (.iadd, 1) := by decide +kernel
theorem dL_law_240 : decode cL_law 240 = .ok (.iaload, 1) := by decide +kernel
theorem dL_law_241 : decode cL_law 241 = .ok (.invokevirtual 22, 3) := by decide +kernel
theorem dL_law_244 : decode cL_law 244 = .ok (.aload_n 2, 1) := by decide +kernel
theorem dL_law_245 : decode cL_law 245 = .ok (.aload_n 0, 1) := by decide +kernel
theorem dL_law_246 : decode cL_law 246 = .ok (.iload_n 3, 1) := by decide +kernel
theorem dL_law_247 : decode cL_law 247 = .ok (.iconst 1, 1) := by decide +kernel
theorem dL_law_248 : decode cL_law 248 = .ok (.iadd, 1) := by decide +kernel
theorem dL_law_249 : decode cL_law 249 = .ok (.iaload, 1) := by decide +kernel
theorem dL_law_250 : decode cL_law 250 = .ok (.aload_n 0, 1) := by decide +kernel
theorem dL_law_251 : decode cL_law 251 = .ok (.iload_n 3, 1) := by decide +kernel
theorem dL_law_252 : decode cL_law 252 = .ok (.iconst 2, 1) := by decide +kernel
theorem dL_law_253 : decode cL_law 253 = .ok (.iadd, 1) := by decide +kernel
theorem dL_law_254 : decode cL_law 254 = .ok (.iaload, 1) := by decide +kernel
theorem dL_law_255 : decode cL_law 255 = .ok (.invokevirtual 26, 3) := by decide +kernel
theorem dL_law_258 : decode cL_law 258 = .ok (.if_icmp .eq 820, 3) := by decide +kernel
theorem dL_law_261 : decode cL_law 261 = .ok (.iconst 0, 1) := by decide +kernel
theorem dL_law_262 : decode cL_law 262 = .ok (.ireturn, 1) := by decide +kernel
theorem dL_law_263 : decode cL_law 263 = .ok (.aload_n 1, 1) := by decide +kernel
theorem dL_law_264 : decode cL_law 264 = .ok (.aload_n 0, 1) := by decide +kernel
theorem dL_law_265 : decode cL_law 265 = .ok (.iload_n 3, 1) := by decide +kernel
theorem dL_law_266 : decode cL_law 266 = .ok (.iconst 1, 1) := by decide +kernel
theorem dL_law_267 : decode cL_law 267 = .ok (.iadd, 1) := by decide +kernel
theorem dL_law_268 : decode cL_law 268 = .ok (.iaload, 1) := by decide +kernel
theorem dL_law_269 : decode cL_law 269 = .ok (.aload_n 0, 1) := by decide +kernel
theorem dL_law_270 : decode cL_law 270 = .ok (.iload_n 3, 1) := by decide +kernel
theorem dL_law_271 : decode cL_law 271 = .ok (.iconst 2, 1) := by decide +kernel
theorem dL_law_272 : decode cL_law 272 = .ok (.iadd, 1) := by decide +kernel
theorem dL_law_273 : decode cL_law 273 = .ok (.iaload, 1) := by decide +kernel
theorem dL_law_274 : decode cL_law 274 = .ok (.aload_n 0, 1) := by decide +kernel
theorem dL_law_275 : decode cL_law 275 = .ok (.iload_n 3, 1) := by decide +kernel
theorem dL_law_276 : decode cL_law 276 = .ok (.iconst 3, 1) := by decide +kernel
theorem dL_law_277 : decode cL_law 277 = .ok (.iadd, 1) := by decide +kernel
theorem dL_law_278 : decode cL_law 278 = .ok (.iaload, 1) := by decide +kernel
theorem dL_law_279 : decode cL_law 279 = .ok (.aload_n 0, 1) := by decide +kernel
theorem dL_law_280 : decode cL_law 280 = .ok (.iload_n 3, 1) := by decide +kernel
theorem dL_law_281 : decode cL_law 281 = .ok (.iconst 4, 1) := by decide +kernel
theorem dL_law_282 : decode cL_law 282 = .ok (.iadd, 1) := by decide +kernel
theorem dL_law_283 : decode cL_law 283 = .ok (.iaload, 1) := by decide +kernel
theorem dL_law_284 : decode cL_law 284 = .ok (.invokevirtual 27, 3) := by decide +kernel
theorem dL_law_287 : decode cL_law 287 = .ok (.aload_n 2, 1) := by decide +kernel
theorem dL_law_288 : decode cL_law 288 = .ok (.aload_n 0, 1) := by decide +kernel
theorem dL_law_289 : decode cL_law 289 = .ok (.iload_n 3, 1) := by decide +kernel
theorem dL_law_290 : decode cL_law 290 = .ok (.iconst 1, 1) := by decide +kernel
theorem dL_law_291 : decode cL_law 291 = .ok (.iadd, 1) := by decide +kernel
theorem dL_law_292 : decode cL_law 292 = .ok (.iaload, 1) := by decide +kernel
theorem dL_law_293 : decode cL_law 293 = .ok (.aload_n 0, 1) := by decide +kernel
theorem dL_law_294 : decode cL_law 294 = .ok (.iload_n 3, 1) := by decide +kernel
theorem dL_law_295 : decode cL_law 295 = .ok (.iconst 2, 1) := by decide +kernel
theorem dL_law_296 : decode cL_law 296 = .ok (.iadd, 1) := by decide +kernel
theorem dL_law_297 : decode cL_law 297 = .ok (.iaload, 1) := by decide +kernel
theorem dL_law_298 : decode cL_law 298 = .ok (.aload_n 0, 1) := by decide +kernel
theorem dL_law_299 : decode cL_law 299 = .ok (.iload_n 3, 1) := by decide +kernel
theorem dL_law_300 : decode cL_law 300 = .ok (.iconst 3, 1) := by decide +kernel
theorem dL_law_301 : decode cL_law 301 = .ok (.iadd, 1) := by decide +kernel
theorem dL_law_302 : decode cL_law 302 = .ok (.iaload, 1) := by decide +kernel
theorem dL_law_303 : decode cL_law 303 = .ok (.aload_n 0, 1) := by decide +kernel
theorem dL_law_304 : decode cL_law 304 = .ok (.iload_n 3, 1) := by decide +kernel
theorem dL_law_305 : decode cL_law 305 = .ok (.iconst 4, 1) := by decide +kernel
theorem dL_law_306 : decode cL_law 306 = .ok (.iadd, 1) := by decide +kernel
theorem dL_law_307 : decode cL_law 307 = .ok (.iaload, 1) := by decide +kernel
theorem dL_law_308 : decode cL_law 308 = .ok (.invokevirtual 31, 3) := by decide +kernel
theorem dL_law_311 : decode cL_law 311 = .ok (.if_icmp .eq 767, 3) := by decide +kernel
theorem dL_law_314 : decode cL_law 314 = .ok (.iconst 0, 1) := by decide +kernel
theorem dL_law_315 : decode cL_law 315 = .ok (.ireturn, 1) := by decide +kernel
theorem dL_law_316 : decode cL_law 316 = .ok (.aload_n 1, 1) := by decide +kernel
theorem dL_law_317 : decode cL_law 317 = .ok (.aload_n 0, 1) := by decide +kernel
theorem dL_law_318 : decode cL_law 318 = .ok (.iload_n 3, 1) := by decide +kernel
theorem dL_law_319 : decode cL_law 319 = .ok (.iconst 1, 1) := by decide +kernel
theorem dL_law_320 : decode cL_law 320 = .ok (.iadd, 1) := by decide +kernel
theorem dL_law_321 : decode cL_law 321 = .ok (.iaload, 1) := by decide +kernel
theorem dL_law_322 : decode cL_law 322 = .ok (.aload_n 0, 1) := by decide +kernel
theorem dL_law_323 : decode cL_law 323 = .ok (.iload_n 3, 1) := by decide +kernel
theorem dL_law_324 : decode cL_law 324 = .ok (.iconst 2, 1) := by decide +kernel
theorem dL_law_325 : decode cL_law 325 = .ok (.iadd, 1) := by decide +kernel
theorem dL_law_326 : decode cL_law 326 = .ok (.iaload, 1) := by decide +kernel
theorem dL_law_327 : decode cL_law 327 = .ok (.aload_n 0, 1) := by decide +kernel
theorem dL_law_328 : decode cL_law 328 = .ok (.iload_n 3, 1) := by decide +kernel
theorem dL_law_329 : decode cL_law 329 = .ok (.iconst 3, 1) := by decide +kernel
theorem dL_law_330 : decode cL_law 330 = .ok (.iadd, 1) := by decide +kernel
theorem dL_law_331 : decode cL_law 331 = .ok (.iaload, 1) := by decide +kernel
theorem dL_law_332 : decode cL_law 332 = .ok (.invokevirtual 32, 3) := by decide +kernel
theorem dL_law_335 : decode cL_law 335 = .ok (.aload_n 2, 1) := by decide +kernel
theorem dL_law_336 : decode cL_law 336 = .ok (.aload_n 0, 1) := by decide +kernel
theorem dL_law_337 : decode cL_law 337 = .ok (.iload_n 3, 1) := by decide +kernel
theorem dL_law_338 : decode cL_law 338 = .ok (.iconst 1, 1) := by decide +kernel
theorem dL_law_339 : decode cL_law 339 = .ok (.iadd, 1) := by decide +kernel
theorem dL_law_340 : decode cL_law 340 = .ok (.iaload, 1) := by decide +kernel
theorem dL_law_341 : decode cL_law 341 = .ok (.aload_n 0, 1) := by decide +kernel
theorem dL_law_342 : decode cL_law 342 = .ok (.iload_n 3, 1) := by decide +kernel
theorem dL_law_343 : decode cL_law 343 = .ok (.iconst 2, 1) := by decide +kernel
theorem dL_law_344 : decode cL_law 344 = .ok (.iadd, 1) := by decide +kernel
theorem dL_law_345 : decode cL_law 345 = .ok (.iaload, 1) := by decide +kernel
theorem dL_law_346 : decode cL_law 346 = .ok (.aload_n 0, 1) := by decide +kernel
theorem dL_law_347 : decode cL_law 347 = .ok (.iload_n 3, 1) := by decide +kernel
theorem dL_law_348 : decode cL_law 348 = .ok (.iconst 3, 1) := by decide +kernel
theorem dL_law_349 : decode cL_law 349 = .ok (.iadd, 1) := by decide +kernel
theorem dL_law_350 : decode cL_law 350 = .ok (.iaload, 1) := by decide +kernel
theorem dL_law_351 : decode cL_law 351 = .ok (.invokevirtual 36, 3) := by decide +kernel
theorem dL_law_354 : decode cL_law 354 = .ok (.if_icmp .eq 724, 3) := by decide +kernel
theorem dL_law_357 : decode cL_law 357 = .ok (.iconst 0, 1) := by decide +kernel
theorem dL_law_358 : decode cL_law 358 = .ok (.ireturn, 1) := by decide +kernel
theorem dL_law_359 : decode cL_law 359 = .ok (.aload_n 1, 1) := by decide +kernel
theorem dL_law_360 : decode cL_law 360 = .ok (.aload_n 0, 1) := by decide +kernel
theorem dL_law_361 : decode cL_law 361 = .ok (.iload_n 3, 1) := by decide +kernel
theorem dL_law_362 : decode cL_law 362 = .ok (.iconst 1, 1) := by decide +kernel
theorem dL_law_363 : decode cL_law 363 = .ok (.iadd, 1) := by decide +kernel
theorem dL_law_364 : decode cL_law 364 = .ok (.iaload, 1) := by decide +kernel
theorem dL_law_365 : decode cL_law 365 = .ok (.invokevirtual 37, 3) := by decide +kernel
theorem dL_law_368 : decode cL_law 368 = .ok (.aload_n 2, 1) := by decide +kernel
theorem dL_law_369 : decode cL_law 369 = .ok (.aload_n 0, 1) := by decide +kernel
theorem dL_law_370 : decode cL_law 370 = .ok (.iload_n 3, 1) := by decide +kernel
theorem dL_law_371 : decode cL_law 371 = .ok (.iconst 1, 1) := by decide +kernel
theorem dL_law_372 : decode cL_law 372 = .ok (.iadd, 1) := by decide +kernel
theorem dL_law_373 : decode cL_law 373 = .ok (.iaload, 1) := by decide +kernel
theorem dL_law_374 : decode cL_law 374 = .ok (.invokevirtual 40, 3) := by decide +kernel
theorem dL_law_377 : decode cL_law 377 = .ok (.if_icmp .eq 701, 3) := by decide +kernel
theorem dL_law_380 : decode cL_law 380 = .ok (.iconst 0, 1) := by decide +kernel
theorem dL_law_381 : decode cL_law 381 = .ok (.ireturn, 1) := by decide +kernel
theorem dL_law_382 : decode cL_law 382 = .ok (.aload_n 1, 1) := by decide +kernel
theorem dL_law_383 : decode cL_law 383 = .ok (.invokevirtual 41, 3) := by decide +kernel
theorem dL_law_386 : decode cL_law 386 = .ok (.aload_n 2, 1) := by decide +kernel
theorem dL_law_387 : decode cL_law 387 = .ok (.invokevirtual 45, 3) := by decide +kernel
theorem dL_law_390 : decode cL_law 390 = .ok (.if_icmp .eq 688, 3) := by decide +kernel
theorem dL_law_393 : decode cL_law 393 = .ok (.iconst 0, 1) := by decide +kernel
theorem dL_law_394 : decode cL_law 394 = .ok (.ireturn, 1) := by decide +kernel
theorem dL_law_395 : decode cL_law 395 = .ok (.aload_n 1, 1) := by decide +kernel
theorem dL_law_396 : decode cL_law 396 = .ok (.invokevirtual 46, 3) := by decide +kernel
theorem dL_law_399 : decode cL_law 399 = .ok (.aload_n 2, 1) := by decide +kernel
theorem dL_law_400 : decode cL_law 400 = .ok (.invokevirtual 49, 3) := by decide +kernel
theorem dL_law_403 : decode cL_law 403 = .ok (.if_icmp .eq 675, 3) := by decide +kernel
theorem dL_law_406 : decode cL_law 406 = .ok (.iconst 0, 1) := by decide +kernel
theorem dL_law_407 : decode cL_law 407 = .ok (.ireturn, 1) := by decide +kernel
theorem dL_law_408 : decode cL_law 408 = .ok (.aload_n 1, 1) := by decide +kernel
theorem dL_law_409 : decode cL_law 409 = .ok (.aload_n 0, 1) := by decide +kernel
theorem dL_law_410 : decode cL_law 410 = .ok (.iload_n 3, 1) := by decide +kernel
theorem dL_law_411 : decode cL_law 411 = .ok (.iconst 1, 1) := by decide +kernel
theorem dL_law_412 : decode cL_law 412 = .ok (.iadd, 1) := by decide +kernel
theorem dL_law_413 : decode cL_law 413 = .ok (.iaload, 1) := by decide +kernel
theorem dL_law_414 : decode cL_law 414 = .ok (.invokevirtual 50, 3) := by decide +kernel
theorem dL_law_417 : decode cL_law 417 = .ok (.aload_n 2, 1) := by decide +kernel
theorem dL_law_418 : decode cL_law 418 = .ok (.aload_n 0, 1) := by decide +kernel
theorem dL_law_419 : decode cL_law 419 = .ok (.iload_n 3, 1) := by decide +kernel
theorem dL_law_420 : decode cL_law 420 = .ok (.iconst 1, 1) := by decide +kernel
theorem dL_law_421 : decode cL_law 421 = .ok (.iadd, 1) := by decide +kernel
theorem dL_law_422 : decode cL_law 422 = .ok (.iaload, 1) := by decide +kernel
theorem dL_law_423 : decode cL_law 423 = .ok (.invokevirtual 53, 3) := by decide +kernel
theorem dL_law_426 : decode cL_law 426 = .ok (.if_icmp .eq 652, 3) := by decide +kernel
theorem dL_law_429 : decode cL_law 429 = .ok (.iconst 0, 1) := by decide +kernel
theorem dL_law_430 : decode cL_law 430 = .ok (.ireturn, 1) := by decide +kernel
theorem dL_law_431 : decode cL_law 431 = .ok (.aload_n 1, 1) := by decide +kernel
theorem dL_law_432 : decode cL_law 432 = .ok (.aload_n 0, 1) := by decide +kernel
theorem dL_law_433 : decode cL_law 433 = .ok (.iload_n 3, 1) := by decide +kernel
theorem dL_law_434 : decode cL_law 434 = .ok (.iconst 1, 1) := by decide +kernel
theorem dL_law_435 : decode cL_law 435 = .ok (.iadd, 1) := by decide +kernel
theorem dL_law_436 : decode cL_law 436 = .ok (.iaload, 1) := by decide +kernel
theorem dL_law_437 : decode cL_law 437 = .ok (.invokevirtual 54, 3) := by decide +kernel
theorem dL_law_440 : decode cL_law 440 = .ok (.aload_n 2, 1) := by decide +kernel
theorem dL_law_441 : decode cL_law 441 = .ok (.aload_n 0, 1) := by decide +kernel
theorem dL_law_442 : decode cL_law 442 = .ok (.iload_n 3, 1) := by decide +kernel
theorem dL_law_443 : decode cL_law 443 = .ok (.iconst 1, 1) := by decide +kernel
theorem dL_law_444 : decode cL_law 444 = .ok (.iadd, 1) := by decide +kernel
theorem dL_law_445 : decode cL_law 445 = .ok (.iaload, 1) := by decide +kernel
theorem dL_law_446 : decode cL_law 446 = .ok (.invokevirtual 57, 3) := by decide +kernel
theorem dL_law_449 : decode cL_law 449 = .ok (.if_icmp .eq 629, 3) := by decide +kernel
theorem dL_law_452 : decode cL_law 452 = .ok (.iconst 0, 1) := by decide +kernel
theorem dL_law_453 : decode cL_law 453 = .ok (.ireturn, 1) := by decide +kernel
theorem dL_law_454 : decode cL_law 454 = .ok (.aload_n 1, 1) := by decide +kernel
theorem dL_law_455 : decode cL_law 455 = .ok (.invokevirtual 58, 3) := by decide +kernel
theorem dL_law_458 : decode cL_law 458 = .ok (.aload_n 2, 1) := by decide +kernel
theorem dL_law_459 : decode cL_law 459 = .ok (.invokevirtual 61, 3) := by decide +kernel
theorem dL_law_462 : decode cL_law 462 = .ok (.if_icmp .eq 616, 3) := by decide +kernel
theorem dL_law_465 : decode cL_law 465 = .ok (.iconst 0, 1) := by decide +kernel
theorem dL_law_466 : decode cL_law 466 = .ok (.ireturn, 1) := by decide +kernel
theorem dL_law_467 : decode cL_law 467 = .ok (.aload_n 1, 1) := by decide +kernel
theorem dL_law_468 : decode cL_law 468 = .ok (.aload_n 0, 1) := by decide +kernel
theorem dL_law_469 : decode cL_law 469 = .ok (.iload_n 3, 1) := by decide +kernel
theorem dL_law_470 : decode cL_law 470 = .ok (.iconst 1, 1) := by decide +kernel
theorem dL_law_471 : decode cL_law 471 = .ok (.iadd, 1) := by decide +kernel
theorem dL_law_472 : decode cL_law 472 = .ok (.iaload, 1) := by decide +kernel
theorem dL_law_473 : decode cL_law 473 = .ok (.aload_n 0, 1) := by decide +kernel
theorem dL_law_474 : decode cL_law 474 = .ok (.iload_n 3, 1) := by decide +kernel
theorem dL_law_475 : decode cL_law 475 = .ok (.iconst 2, 1) := by decide +kernel
theorem dL_law_476 : decode cL_law 476 = .ok (.iadd, 1) := by decide +kernel
theorem dL_law_477 : decode cL_law 477 = .ok (.iaload, 1) := by decide +kernel
theorem dL_law_478 : decode cL_law 478 = .ok (.invokevirtual 62, 3) := by decide +kernel
theorem dL_law_481 : decode cL_law 481 = .ok (.aload_n 2, 1) := by decide +kernel
theorem dL_law_482 : decode cL_law 482 = .ok (.aload_n 0, 1) := by decide +kernel
theorem dL_law_483 : decode cL_law 483 = .ok (.iload_n 3, 1) := by decide +kernel
theorem dL_law_484 : decode cL_law 484 = .ok (.iconst 1, 1) := by decide +kernel
theorem dL_law_485 : decode cL_law 485 = .ok (.iadd, 1) := by decide +kernel
theorem dL_law_486 : decode cL_law 486 = .ok (.iaload, 1) := by decide +kernel
theorem dL_law_487 : decode cL_law 487 = .ok (.aload_n 0, 1) := by decide +kernel
theorem dL_law_488 : decode cL_law 488 = .ok (.iload_n 3, 1) := by decide +kernel
theorem dL_law_489 : decode cL_law 489 = .ok (.iconst 2, 1) := by decide +kernel
theorem dL_law_490 : decode cL_law 490 = .ok (.iadd, 1) := by decide +kernel
theorem dL_law_491 : decode cL_law 491 = .ok (.iaload, 1) := by decide +kernel
theorem dL_law_492 : decode cL_law 492 = .ok (.invokevirtual 65, 3) := by decide +kernel
theorem dL_law_495 : decode cL_law 495 = .ok (.if_icmp .eq 583, 3) := by decide +kernel
theorem dL_law_498 : decode cL_law 498 = .ok (.iconst 0, 1) := by decide +kernel
theorem dL_law_499 : decode cL_law 499 = .ok (.ireturn, 1) := by decide +kernel
theorem dL_law_500 : decode cL_law 500 = .ok (.aload_n 1, 1) := by decide +kernel
theorem dL_law_501 : decode cL_law 501 = .ok (.aload_n 0, 1) := by decide +kernel
theorem dL_law_502 : decode cL_law 502 = .ok (.iload_n 3, 1) := by decide +kernel
theorem dL_law_503 : decode cL_law 503 = .ok (.iconst 1, 1) := by decide +kernel
theorem dL_law_504 : decode cL_law 504 = .ok (.iadd, 1) := by decide +kernel
theorem dL_law_505 : decode cL_law 505 = .ok (.iaload, 1) := by decide +kernel
theorem dL_law_506 : decode cL_law 506 = .ok (.aload_n 0, 1) := by decide +kernel
theorem dL_law_507 : decode cL_law 507 = .ok (.iload_n 3, 1) := by decide +kernel
theorem dL_law_508 : decode cL_law 508 = .ok (.iconst 2, 1) := by decide +kernel
theorem dL_law_509 : decode cL_law 509 = .ok (.iadd, 1) := by decide +kernel
theorem dL_law_510 : decode cL_law 510 = .ok (.iaload, 1) := by decide +kernel
theorem dL_law_511 : decode cL_law 511 = .ok (.aload_n 0, 1) := by decide +kernel
theorem dL_law_512 : decode cL_law 512 = .ok (.iload_n 3, 1) := by decide +kernel
theorem dL_law_513 : decode cL_law 513 = .ok (.iconst 3, 1) := by decide +kernel
theorem dL_law_514 : decode cL_law 514 = .ok (.iadd, 1) := by decide +kernel
theorem dL_law_515 : decode cL_law 515 = .ok (.iaload, 1) := by decide +kernel
theorem dL_law_516 : decode cL_law 516 = .ok (.invokevirtual 66, 3) := by decide +kernel
theorem dL_law_519 : decode cL_law 519 = .ok (.aload_n 2, 1) := by decide +kernel
theorem dL_law_520 : decode cL_law 520 = .ok (.aload_n 0, 1) := by decide +kernel
theorem dL_law_521 : decode cL_law 521 = .ok (.iload_n 3, 1) := by decide +kernel
theorem dL_law_522 : decode cL_law 522 = .ok (.iconst 1, 1) := by decide +kernel
theorem dL_law_523 : decode cL_law 523 = .ok (.iadd, 1) := by decide +kernel
theorem dL_law_524 : decode cL_law 524 = .ok (.iaload, 1) := by decide +kernel
theorem dL_law_525 : decode cL_law 525 = .ok (.aload_n 0, 1) := by decide +kernel
theorem dL_law_526 : decode cL_law 526 = .ok (.iload_n 3, 1) := by decide +kernel
theorem dL_law_527 : decode cL_law 527 = .ok (.iconst 2, 1) := by decide +kernel
theorem dL_law_528 : decode cL_law 528 = .ok (.iadd, 1) := by decide +kernel
theorem dL_law_529 : decode cL_law 529 = .ok (.iaload, 1) := by decide +kernel
theorem dL_law_530 : decode cL_law 530 = .ok (.aload_n 0, 1) := by decide +kernel
theorem dL_law_531 : decode cL_law 531 = .ok (.iload_n 3, 1) := by decide +kernel
theorem dL_law_532 : decode cL_law 532 = .ok (.iconst 3, 1) := by decide +kernel
theorem dL_law_533 : decode cL_law 533 = .ok (.iadd, 1) := by decide +kernel
theorem dL_law_534 : decode cL_law 534 = .ok (.iaload, 1) := by decide +kernel
theorem dL_law_535 : decode cL_law 535 = .ok (.invokevirtual 69, 3) := by decide +kernel
theorem dL_law_538 : decode cL_law 538 = .ok (.if_icmp .eq 540, 3) := by decide +kernel
theorem dL_law_541 : decode cL_law 541 = .ok (.iconst 0, 1) := by decide +kernel
theorem dL_law_542 : decode cL_law 542 = .ok (.ireturn, 1) := by decide +kernel
theorem dL_law_543 : decode cL_law 543 = .ok (.aload_n 1, 1) := by decide +kernel
theorem dL_law_544 : decode cL_law 544 = .ok (.aload_n 0, 1) := by decide +kernel
theorem dL_law_545 : decode cL_law 545 = .ok (.iload_n 3, 1) := by decide +kernel
theorem dL_law_546 : decode cL_law 546 = .ok (.iconst 1, 1) := by decide +kernel
theorem dL_law_547 : decode cL_law 547 = .ok (.iadd, 1) := by decide +kernel
theorem dL_law_548 : decode cL_law 548 = .ok (.iaload, 1) := by decide +kernel
theorem dL_law_549 : decode cL_law 549 = .ok (.invokevirtual 70, 3) := by decide +kernel
theorem dL_law_552 : decode cL_law 552 = .ok (.aload_n 2, 1) := by decide +kernel
theorem dL_law_553 : decode cL_law 553 = .ok (.aload_n 0, 1) := by decide +kernel
theorem dL_law_554 : decode cL_law 554 = .ok (.iload_n 3, 1) := by decide +kernel
theorem dL_law_555 : decode cL_law 555 = .ok (.iconst 1, 1) := by decide +kernel
theorem dL_law_556 : decode cL_law 556 = .ok (.iadd, 1) := by decide +kernel
theorem dL_law_557 : decode cL_law 557 = .ok (.iaload, 1) := by decide +kernel
theorem dL_law_558 : decode cL_law 558 = .ok (.invokevirtual 73, 3) := by decide +kernel
theorem dL_law_561 : decode cL_law 561 = .ok (.if_icmp .eq 517, 3) := by decide +kernel
theorem dL_law_564 : decode cL_law 564 = .ok (.iconst 0, 1) := by decide +kernel
theorem dL_law_565 : decode cL_law 565 = .ok (.ireturn, 1) := by decide +kernel
theorem dL_law_566 : decode cL_law 566 = .ok (.aload_n 1, 1) := by decide +kernel
theorem dL_law_567 : decode cL_law 567 = .ok (.aload_n 0, 1) := by decide +kernel
theorem dL_law_568 : decode cL_law 568 = .ok (.iload_n 3, 1) := by decide +kernel
theorem dL_law_569 : decode cL_law 569 = .ok (.iconst 1, 1) := by decide +kernel
theorem dL_law_570 : decode cL_law 570 = .ok (.iadd, 1) := by decide +kernel
theorem dL_law_571 : decode cL_law 571 = .ok (.iaload, 1) := by decide +kernel
theorem dL_law_572 : decode cL_law 572 = .ok (.aload_n 0, 1) := by decide +kernel
theorem dL_law_573 : decode cL_law 573 = .ok (.iload_n 3, 1) := by decide +kernel
theorem dL_law_574 : decode cL_law 574 = .ok (.iconst 2, 1) := by decide +kernel
theorem dL_law_575 : decode cL_law 575 = .ok (.iadd, 1) := by decide +kernel
theorem dL_law_576 : decode cL_law 576 = .ok (.iaload, 1) := by decide +kernel
theorem dL_law_577 : decode cL_law 577 = .ok (.invokevirtual 74, 3) := by decide +kernel
theorem dL_law_580 : decode cL_law 580 = .ok (.aload_n 2, 1) := by decide +kernel
theorem dL_law_581 : decode cL_law 581 = .ok (.aload_n 0, 1) := by decide +kernel
theorem dL_law_582 : decode cL_law 582 = .ok (.iload_n 3, 1) := by decide +kernel
theorem dL_law_583 : decode cL_law 583 = .ok (.iconst 1, 1) := by decide +kernel
theorem dL_law_584 : decode cL_law 584 = .ok (.iadd, 1) := by decide +kernel
theorem dL_law_585 : decode cL_law 585 = .ok (.iaload, 1) := by decide +kernel
theorem dL_law_586 : decode cL_law 586 = .ok (.aload_n 0, 1) := by decide +kernel
theorem dL_law_587 : decode cL_law 587 = .ok (.iload_n 3, 1) := by decide +kernel
theorem dL_law_588 : decode cL_law 588 = .ok (.iconst 2, 1) := by decide +kernel
theorem dL_law_589 : decode cL_law 589 = .ok (.iadd, 1) := by decide +kernel
theorem dL_law_590 : decode cL_law 590 = .ok (.iaload, 1) := by decide +kernel
theorem dL_law_591 : decode cL_law 591 = .ok (.invokevirtual 77, 3) := by decide +kernel
theorem dL_law_594 : decode cL_law 594 = .ok (.if_icmp .eq 484, 3) := by decide +kernel
theorem dL_law_597 : decode cL_law 597 = .ok (.iconst 0, 1) := by decide +kernel
theorem dL_law_598 : decode cL_law 598 = .ok (.ireturn, 1) := by decide +kernel
theorem dL_law_599 : decode cL_law 599 = .ok (.aload_n 1, 1) := by decide +kernel
theorem dL_law_600 : decode cL_law 600 = .ok (.aload_n 0, 1) := by decide +kernel
theorem dL_law_601 : decode cL_law 601 = .ok (.iload_n 3, 1) := by decide +kernel
theorem dL_law_602 : decode cL_law 602 = .ok (.iconst 1, 1) := by decide +kernel
theorem dL_law_603 : decode cL_law 603 = .ok (.iadd, 1) := by decide +kernel
theorem dL_law_604 : decode cL_law 604 = .ok (.iaload, 1) := by decide +kernel
theorem dL_law_605 : decode cL_law 605 = .ok (.invokevirtual 78, 3) := by decide +kernel
theorem dL_law_608 : decode cL_law 608 = .ok (.aload_n 2, 1) := by decide +kernel
theorem dL_law_609 : decode cL_law 609 = .ok (.aload_n 0, 1) := by decide +kernel
theorem dL_law_610 : decode cL_law 610 = .ok (.iload_n 3, 1) := by decide +kernel
theorem dL_law_611 : decode cL_law 611 = .ok (.iconst 1, 1) := by decide +kernel
theorem dL_law_612 : decode cL_law 612 = .ok (.iadd, 1) := by decide +kernel
theorem dL_law_613 : decode cL_law 613 = .ok (.iaload, 1) := by decide +kernel
theorem dL_law_614 : decode cL_law 614 = .ok (.invokevirtual 81, 3) := by decide +kernel
theorem dL_law_617 : decode cL_law 617 = .ok (.if_icmp .eq 461, 3) := by decide +kernel
theorem dL_law_620 : decode cL_law 620 = .ok (.iconst 0, 1) := by decide +kernel
theorem dL_law_621 : decode cL_law 621 = .ok (.ireturn, 1) := by decide +kernel
theorem dL_law_622 : decode cL_law 622 = .ok (.aload_n 1, 1) := by decide +kernel
theorem dL_law_623 : decode cL_law 623 = .ok (.aload_n 0, 1) := by decide +kernel
theorem dL_law_624 : decode cL_law 624 = .ok (.iload_n 3, 1) := by decide +kernel
theorem dL_law_625 : decode cL_law 625 = .ok (.iconst 1, 1) := by decide +kernel
theorem dL_law_626 : decode cL_law 626 = .ok (.iadd, 1) := by decide +kernel
theorem dL_law_627 : decode cL_law 627 = .ok (.iaload, 1) := by decide +kernel
theorem dL_law_628 : decode cL_law 628 = .ok (.invokevirtual 82, 3) := by decide +kernel
theorem dL_law_631 : decode cL_law 631 = .ok (.aload_n 2, 1) := by decide +kernel
theorem dL_law_632 : decode cL_law 632 = .ok (.aload_n 0, 1) := by decide +kernel
theorem dL_law_633 : decode cL_law 633 = .ok (.iload_n 3, 1) := by decide +kernel
theorem dL_law_634 : decode cL_law 634 = .ok (.iconst 1, 1) := by decide +kernel
theorem dL_law_635 : decode cL_law 635 = .ok (.iadd, 1) := by decide +kernel
theorem dL_law_636 : decode cL_law 636 = .ok (.iaload, 1) := by decide +kernel
theorem dL_law_637 : decode cL_law 637 = .ok (.invokevirtual 85, 3) := by decide +kernel
theorem dL_law_640 : decode cL_law 640 = .ok (.if_icmp .eq 438, 3) := by decide +kernel
theorem dL_law_643 : decode cL_law 643 = .ok (.iconst 0, 1) := by decide +kernel
theorem dL_law_644 : decode cL_law 644 = .ok (.ireturn, 1) := by decide +kernel
theorem dL_law_645 : decode cL_law 645 = .ok (.aload_n 1, 1) := by decide +kernel
theorem dL_law_646 : decode cL_law 646 = .ok (.invokevirtual 86, 3) := by decide +kernel
theorem dL_law_649 : decode cL_law 649 = .ok (.aload_n 2, 1) := by decide +kernel
theorem dL_law_650 : decode cL_law 650 = .ok (.invokevirtual 89, 3) := by decide +kernel
theorem dL_law_653 : decode cL_law 653 = .ok (.if_icmp .eq 425, 3) := by decide +kernel
theorem dL_law_656 : decode cL_law 656 = .ok (.iconst 0, 1) := by decide +kernel
theorem dL_law_657 : decode cL_law 657 = .ok (.ireturn, 1) := by decide +kernel
theorem dL_law_658 : decode cL_law 658 = .ok (.aload_n 1, 1) := by decide +kernel
theorem dL_law_659 : decode cL_law 659 = .ok (.invokevirtual 90, 3) := by decide +kernel
theorem dL_law_662 : decode cL_law 662 = .ok (.aload_n 2, 1) := by decide +kernel
theorem dL_law_663 : decode cL_law 663 = .ok (.invokevirtual 93, 3) := by decide +kernel
theorem dL_law_666 : decode cL_law 666 = .ok (.if_icmp .eq 412, 3) := by decide +kernel
theorem dL_law_669 : decode cL_law 669 = .ok (.iconst 0, 1) := by decide +kernel
theorem dL_law_670 : decode cL_law 670 = .ok (.ireturn, 1) := by decide +kernel
theorem dL_law_671 : decode cL_law 671 = .ok (.aload_n 1, 1) := by decide +kernel
theorem dL_law_672 : decode cL_law 672 = .ok (.aload_n 0, 1) := by decide +kernel
theorem dL_law_673 : decode cL_law 673 = .ok (.iload_n 3, 1) := by decide +kernel
theorem dL_law_674 : decode cL_law 674 = .ok (.iconst 1, 1) := by decide +kernel
theorem dL_law_675 : decode cL_law 675 = .ok (.iadd, 1) := by decide +kernel
theorem dL_law_676 : decode cL_law 676 = .ok (.iaload, 1) := by decide +kernel
theorem dL_law_677 : decode cL_law 677 = .ok (.aload_n 0, 1) := by decide +kernel
theorem dL_law_678 : decode cL_law 678 = .ok (.iload_n 3, 1) := by decide +kernel
theorem dL_law_679 : decode cL_law 679 = .ok (.iconst 2, 1) := by decide +kernel
theorem dL_law_680 : decode cL_law 680 = .ok (.iadd, 1) := by decide +kernel
theorem dL_law_681 : decode cL_law 681 = .ok (.iaload, 1) := by decide +kernel
theorem dL_law_682 : decode cL_law 682 = .ok (.aload_n 0, 1) := by decide +kernel
theorem dL_law_683 : decode cL_law 683 = .ok (.iload_n 3, 1) := by decide +kernel
theorem dL_law_684 : decode cL_law 684 = .ok (.iconst 3, 1) := by decide +kernel
theorem dL_law_685 : decode cL_law 685 = .ok (.iadd, 1) := by decide +kernel
theorem dL_law_686 : decode cL_law 686 = .ok (.iaload, 1) := by decide +kernel
theorem dL_law_687 : decode cL_law 687 = .ok (.invokevirtual 94, 3) := by decide +kernel
theorem dL_law_690 : decode cL_law 690 = .ok (.aload_n 2, 1) := by decide +kernel
theorem dL_law_691 : decode cL_law 691 = .ok (.aload_n 0, 1) := by decide +kernel
theorem dL_law_692 : decode cL_law 692 = .ok (.iload_n 3, 1) := by decide +kernel
theorem dL_law_693 : decode cL_law 693 = .ok (.iconst 1, 1) := by decide +kernel
theorem dL_law_694 : decode cL_law 694 = .ok (.iadd, 1) := by decide +kernel
theorem dL_law_695 : decode cL_law 695 = .ok (.iaload, 1) := by decide +kernel
theorem dL_law_696 : decode cL_law 696 = .ok (.aload_n 0, 1) := by decide +kernel
theorem dL_law_697 : decode cL_law 697 = .ok (.iload_n 3, 1) := by decide +kernel
theorem dL_law_698 : decode cL_law 698 = .ok (.iconst 2, 1) := by decide +kernel
theorem dL_law_699 : decode cL_law 699 = .ok (.iadd, 1) := by decide +kernel
theorem dL_law_700 : decode cL_law 700 = .ok (.iaload, 1) := by decide +kernel
theorem dL_law_701 : decode cL_law 701 = .ok (.aload_n 0, 1) := by decide +kernel
theorem dL_law_702 : decode cL_law 702 = .ok (.iload_n 3, 1) := by decide +kernel
theorem dL_law_703 : decode cL_law 703 = .ok (.iconst 3, 1) := by decide +kernel
theorem dL_law_704 : decode cL_law 704 = .ok (.iadd, 1) := by decide +kernel
theorem dL_law_705 : decode cL_law 705 = .ok (.iaload, 1) := by decide +kernel
theorem dL_law_706 : decode cL_law 706 = .ok (.invokevirtual 97, 3) := by decide +kernel
theorem dL_law_709 : decode cL_law 709 = .ok (.if_icmp .eq 369, 3) := by decide +kernel
theorem dL_law_712 : decode cL_law 712 = .ok (.iconst 0, 1) := by decide +kernel
theorem dL_law_713 : decode cL_law 713 = .ok (.ireturn, 1) := by decide +kernel
theorem dL_law_714 : decode cL_law 714 = .ok (.aload_n 1, 1) := by decide +kernel
theorem dL_law_715 : decode cL_law 715 = .ok (.aload_n 0, 1) := by decide +kernel
theorem dL_law_716 : decode cL_law 716 = .ok (.iload_n 3, 1) := by decide +kernel
theorem dL_law_717 : decode cL_law 717 = .ok (.iconst 1, 1) := by decide +kernel
theorem dL_law_718 : decode cL_law 718 = .ok (.iadd, 1) := by decide +kernel
theorem dL_law_719 : decode cL_law 719 = .ok (.iaload, 1) := by decide +kernel
theorem dL_law_720 : decode cL_law 720 = .ok (.aload_n 0, 1) := by decide +kernel
theorem dL_law_721 : decode cL_law 721 = .ok (.iload_n 3, 1) := by decide +kernel
theorem dL_law_722 : decode cL_law 722 = .ok (.iconst 2, 1) := by decide +kernel
theorem dL_law_723 : decode cL_law 723 = .ok (.iadd, 1) := by decide +kernel
theorem dL_law_724 : decode cL_law 724 = .ok (.iaload, 1) := by decide +kernel
theorem dL_law_725 : decode cL_law 725 = .ok (.aload_n 0, 1) := by decide +kernel
theorem dL_law_726 : decode cL_law 726 = .ok (.iload_n 3, 1) := by decide +kernel
theorem dL_law_727 : decode cL_law 727 = .ok (.iconst 3, 1) := by decide +kernel
theorem dL_law_728 : decode cL_law 728 = .ok (.iadd, 1) := by decide +kernel
theorem dL_law_729 : decode cL_law 729 = .ok (.iaload, 1) := by decide +kernel
theorem dL_law_730 : decode cL_law 730 = .ok (.aload_n 0, 1) := by decide +kernel
theorem dL_law_731 : decode cL_law 731 = .ok (.iload_n 3, 1) := by decide +kernel
theorem dL_law_732 : decode cL_law 732 = .ok (.iconst 4, 1) := by decide +kernel
theorem dL_law_733 : decode cL_law 733 = .ok (.iadd, 1) := by decide +kernel
theorem dL_law_734 : decode cL_law 734 = .ok (.iaload, 1) := by decide +kernel
theorem dL_law_735 : decode cL_law 735 = .ok (.invokevirtual 98, 3) := by decide +kernel
theorem dL_law_738 : decode cL_law 738 = .ok (.aload_n 2, 1) := by decide +kernel
theorem dL_law_739 : decode cL_law 739 = .ok (.aload_n 0, 1) := by decide +kernel
theorem dL_law_740 : decode cL_law 740 = .ok (.iload_n 3, 1) := by decide +kernel
theorem dL_law_741 : decode cL_law 741 = .ok (.iconst 1, 1) := by decide +kernel
theorem dL_law_742 : decode cL_law 742 = .ok (.iadd, 1) := by decide +kernel
theorem dL_law_743 : decode cL_law 743 = .ok (.iaload, 1) := by decide +kernel
theorem dL_law_744 : decode cL_law 744 = .ok (.aload_n 0, 1) := by decide +kernel
theorem dL_law_745 : decode cL_law 745 = .ok (.iload_n 3, 1) := by decide +kernel
theorem dL_law_746 : decode cL_law 746 = .ok (.iconst 2, 1) := by decide +kernel
theorem dL_law_747 : decode cL_law 747 = .ok (.iadd, 1) := by decide +kernel
theorem dL_law_748 : decode cL_law 748 = .ok (.iaload, 1) := by decide +kernel
theorem dL_law_749 : decode cL_law 749 = .ok (.aload_n 0, 1) := by decide +kernel
theorem dL_law_750 : decode cL_law 750 = .ok (.iload_n 3, 1) := by decide +kernel
theorem dL_law_751 : decode cL_law 751 = .ok (.iconst 3, 1) := by decide +kernel
theorem dL_law_752 : decode cL_law 752 = .ok (.iadd, 1) := by decide +kernel
theorem dL_law_753 : decode cL_law 753 = .ok (.iaload, 1) := by decide +kernel
theorem dL_law_754 : decode cL_law 754 = .ok (.aload_n 0, 1) := by decide +kernel
theorem dL_law_755 : decode cL_law 755 = .ok (.iload_n 3, 1) := by decide +kernel
theorem dL_law_756 : decode cL_law 756 = .ok (.iconst 4, 1) := by decide +kernel
theorem dL_law_757 : decode cL_law 757 = .ok (.iadd, 1) := by decide +kernel
theorem dL_law_758 : decode cL_law 758 = .ok (.iaload, 1) := by decide +kernel
theorem dL_law_759 : decode cL_law 759 = .ok (.invokevirtual 101, 3) := by decide +kernel
theorem dL_law_762 : decode cL_law 762 = .ok (.if_icmp .eq 316, 3) := by decide +kernel
theorem dL_law_765 : decode cL_law 765 = .ok (.iconst 0, 1) := by decide +kernel
theorem dL_law_766 : decode cL_law 766 = .ok (.ireturn, 1) := by decide +kernel
theorem dL_law_767 : decode cL_law 767 = .ok (.aload_n 1, 1) := by decide +kernel
theorem dL_law_768 : decode cL_law 768 = .ok (.invokevirtual 102, 3) := by decide +kernel
theorem dL_law_771 : decode cL_law 771 = .ok (.aload_n 2, 1) := by decide +kernel
theorem dL_law_772 : decode cL_law 772 = .ok (.invokevirtual 105, 3) := by decide +kernel
theorem dL_law_775 : decode cL_law 775 = .ok (.if_icmp .eq 303, 3) := by decide +kernel
theorem dL_law_778 : decode cL_law 778 = .ok (.iconst 0, 1) := by decide +kernel
theorem dL_law_779 : decode cL_law 779 = .ok (.ireturn, 1) := by decide +kernel
theorem dL_law_780 : decode cL_law 780 = .ok (.aload_n 1, 1) := by decide +kernel
theorem dL_law_781 : decode cL_law 781 = .ok (.aload_n 0, 1) := by decide +kernel
theorem dL_law_782 : decode cL_law 782 = .ok (.iload_n 3, 1) := by decide +kernel
theorem dL_law_783 : decode cL_law 783 = .ok (.iconst 1, 1) := by decide +kernel
theorem dL_law_784 : decode cL_law 784 = .ok (.iadd, 1) := by decide +kernel
theorem dL_law_785 : decode cL_law 785 = .ok (.iaload, 1) := by decide +kernel
theorem dL_law_786 : decode cL_law 786 = .ok (.invokevirtual 106, 3) := by decide +kernel
theorem dL_law_789 : decode cL_law 789 = .ok (.aload_n 2, 1) := by decide +kernel
theorem dL_law_790 : decode cL_law 790 = .ok (.aload_n 0, 1) := by decide +kernel
theorem dL_law_791 : decode cL_law 791 = .ok (.iload_n 3, 1) := by decide +kernel
theorem dL_law_792 : decode cL_law 792 = .ok (.iconst 1, 1) := by decide +kernel
theorem dL_law_793 : decode cL_law 793 = .ok (.iadd, 1) := by decide +kernel
theorem dL_law_794 : decode cL_law 794 = .ok (.iaload, 1) := by decide +kernel
theorem dL_law_795 : decode cL_law 795 = .ok (.invokevirtual 109, 3) := by decide +kernel
theorem dL_law_798 : decode cL_law 798 = .ok (.if_icmp .eq 280, 3) := by decide +kernel
theorem dL_law_801 : decode cL_law 801 = .ok (.iconst 0, 1) := by decide +kernel
theorem dL_law_802 : decode cL_law 802 = .ok (.ireturn, 1) := by decide +kernel
theorem dL_law_803 : decode cL_law 803 = .ok (.aload_n 1, 1) := by decide +kernel
theorem dL_law_804 : decode cL_law 804 = .ok (.aload_n 0, 1) := by decide +kernel
theorem dL_law_805 : decode cL_law 805 = .ok (.iload_n 3, 1) := by decide +kernel
theorem dL_law_806 : decode cL_law 806 = .ok (.iconst 1, 1) := by decide +kernel
theorem dL_law_807 : decode cL_law 807 = .ok (.iadd, 1) := by decide +kernel
theorem dL_law_808 : decode cL_law 808 = .ok (.iaload, 1) := by decide +kernel
theorem dL_law_809 : decode cL_law 809 = .ok (.invokevirtual 110, 3) := by decide +kernel
theorem dL_law_812 : decode cL_law 812 = .ok (.aload_n 2, 1) := by decide +kernel
theorem dL_law_813 : decode cL_law 813 = .ok (.aload_n 0, 1) := by decide +kernel
theorem dL_law_814 : decode cL_law 814 = .ok (.iload_n 3, 1) := by decide +kernel
theorem dL_law_815 : decode cL_law 815 = .ok (.iconst 1, 1) := by decide +kernel
theorem dL_law_816 : decode cL_law 816 = .ok (.iadd, 1) := by decide +kernel
theorem dL_law_817 : decode cL_law 817 = .ok (.iaload, 1) := by decide +kernel
theorem dL_law_818 : decode cL_law 818 = .ok (.invokevirtual 113, 3) := by decide +kernel
theorem dL_law_821 : decode cL_law 821 = .ok (.if_icmp .eq 257, 3) := by decide +kernel
theorem dL_law_824 : decode cL_law 824 = .ok (.iconst 0, 1) := by decide +kernel
theorem dL_law_825 : decode cL_law 825 = .ok (.ireturn, 1) := by decide +kernel
theorem dL_law_826 : decode cL_law 826 = .ok (.aload_n 1, 1) := by decide +kernel
theorem dL_law_827 : decode cL_law 827 = .ok (.aload_n 0, 1) := by decide +kernel
theorem dL_law_828 : decode cL_law 828 = .ok (.iload_n 3, 1) := by decide +kernel
theorem dL_law_829 : decode cL_law 829 = .ok (.iconst 1, 1) := by decide +kernel
theorem dL_law_830 : decode cL_law 830 = .ok (.iadd, 1) := by decide +kernel
theorem dL_law_831 : decode cL_law 831 = .ok (.iaload, 1) := by decide +kernel
theorem dL_law_832 : decode cL_law 832 = .ok (.invokevirtual 114, 3) := by decide +kernel
theorem dL_law_835 : decode cL_law 835 = .ok (.aload_n 2, 1) := by decide +kernel
theorem dL_law_836 : decode cL_law 836 = .ok (.aload_n 0, 1) := by decide +kernel
theorem dL_law_837 : decode cL_law 837 = .ok (.iload_n 3, 1) := by decide +kernel
theorem dL_law_838 : decode cL_law 838 = .ok (.iconst 1, 1) := by decide +kernel
theorem dL_law_839 : decode cL_law 839 = .ok (.iadd, 1) := by decide +kernel
theorem dL_law_840 : decode cL_law 840 = .ok (.iaload, 1) := by decide +kernel
theorem dL_law_841 : decode cL_law 841 = .ok (.invokevirtual 117, 3) := by decide +kernel
theorem dL_law_844 : decode cL_law 844 = .ok (.if_icmp .eq 234, 3) := by decide +kernel
theorem dL_law_847 : decode cL_law 847 = .ok (.iconst 0, 1) := by decide +kernel
theorem dL_law_848 : decode cL_law 848 = .ok (.ireturn, 1) := by decide +kernel
theorem dL_law_849 : decode cL_law 849 = .ok (.aload_n 1, 1) := by decide +kernel
theorem dL_law_850 : decode cL_law 850 = .ok (.aload_n 0, 1) := by decide +kernel
theorem dL_law_851 : decode cL_law 851 = .ok (.iload_n 3, 1) := by decide +kernel
theorem dL_law_852 : decode cL_law 852 = .ok (.iconst 1, 1) := by decide +kernel
theorem dL_law_853 : decode cL_law 853 = .ok (.iadd, 1) := by decide +kernel
theorem dL_law_854 : decode cL_law 854 = .ok (.iaload, 1) := by decide +kernel
theorem dL_law_855 : decode cL_law 855 = .ok (.aload_n 0, 1) := by decide +kernel
theorem dL_law_856 : decode cL_law 856 = .ok (.iload_n 3, 1) := by decide +kernel
theorem dL_law_857 : decode cL_law 857 = .ok (.iconst 2, 1) := by decide +kernel
theorem dL_law_858 : decode cL_law 858 = .ok (.iadd, 1) := by decide +kernel
theorem dL_law_859 : decode cL_law 859 = .ok (.iaload, 1) := by decide +kernel
theorem dL_law_860 : decode cL_law 860 = .ok (.aload_n 0, 1) := by decide +kernel
theorem dL_law_861 : decode cL_law 861 = .ok (.iload_n 3, 1) := by decide +kernel
theorem dL_law_862 : decode cL_law 862 = .ok (.iconst 3, 1) := by decide +kernel
theorem dL_law_863 : decode cL_law 863 = .ok (.iadd, 1) := by decide +kernel
theorem dL_law_864 : decode cL_law 864 = .ok (.iaload, 1) := by decide +kernel
theorem dL_law_865 : decode cL_law 865 = .ok (.invokevirtual 118, 3) := by decide +kernel
theorem dL_law_868 : decode cL_law 868 = .ok (.aload_n 2, 1) := by decide +kernel
theorem dL_law_869 : decode cL_law 869 = .ok (.aload_n 0, 1) := by decide +kernel
theorem dL_law_870 : decode cL_law 870 = .ok (.iload_n 3, 1) := by decide +kernel
theorem dL_law_871 : decode cL_law 871 = .ok (.iconst 1, 1) := by decide +kernel
theorem dL_law_872 : decode cL_law 872 = .ok (.iadd, 1) := by decide +kernel
theorem dL_law_873 : decode cL_law 873 = .ok (.iaload, 1) := by decide +kernel
theorem dL_law_874 : decode cL_law 874 = .ok (.aload_n 0, 1) := by decide +kernel
theorem dL_law_875 : decode cL_law 875 = .ok (.iload_n 3, 1) := by decide +kernel
theorem dL_law_876 : decode cL_law 876 = .ok (.iconst 2, 1) := by decide +kernel
theorem dL_law_877 : decode cL_law 877 = .ok (.iadd, 1) := by decide +kernel
theorem dL_law_878 : decode cL_law 878 = .ok (.iaload, 1) := by decide +kernel
theorem dL_law_879 : decode cL_law 879 = .ok (.aload_n 0, 1) := by decide +kernel
theorem dL_law_880 : decode cL_law 880 = .ok (.iload_n 3, 1) := by decide +kernel
theorem dL_law_881 : decode cL_law 881 = .ok (.iconst 3, 1) := by decide +kernel
theorem dL_law_882 : decode cL_law 882 = .ok (.iadd, 1) := by decide +kernel
theorem dL_law_883 : decode cL_law 883 = .ok (.iaload, 1) := by decide +kernel
theorem dL_law_884 : decode cL_law 884 = .ok (.invokevirtual 121, 3) := by decide +kernel
theorem dL_law_887 : decode cL_law 887 = .ok (.if_icmp .eq 191, 3) := by decide +kernel
theorem dL_law_890 : decode cL_law 890 = .ok (.iconst 0, 1) := by decide +kernel
theorem dL_law_891 : decode cL_law 891 = .ok (.ireturn, 1) := by decide +kernel
theorem dL_law_892 : decode cL_law 892 = .ok (.aload_n 1, 1) := by decide +kernel
theorem dL_law_893 : decode cL_law 893 = .ok (.aload_n 0, 1) := by decide +kernel
theorem dL_law_894 : decode cL_law 894 = .ok (.iload_n 3, 1) := by decide +kernel
theorem dL_law_895 : decode cL_law 895 = .ok (.iconst 1, 1) := by decide +kernel
theorem dL_law_896 : decode cL_law 896 = .ok (.iadd, 1) := by decide +kernel
theorem dL_law_897 : decode cL_law 897 = .ok (.iaload, 1) := by decide +kernel
theorem dL_law_898 : decode cL_law 898 = .ok (.invokevirtual 122, 3) := by decide +kernel
theorem dL_law_901 : decode cL_law 901 = .ok (.aload_n 2, 1) := by decide +kernel
theorem dL_law_902 : decode cL_law 902 = .ok (.aload_n 0, 1) := by decide +kernel
theorem dL_law_903 : decode cL_law 903 = .ok (.iload_n 3, 1) := by decide +kernel
theorem dL_law_904 : decode cL_law 904 = .ok (.iconst 1, 1) := by decide +kernel
theorem dL_law_905 : decode cL_law 905 = .ok (.iadd, 1) := by decide +kernel
theorem dL_law_906 : decode cL_law 906 = .ok (.iaload, 1) := by decide +kernel
theorem dL_law_907 : decode cL_law 907 = .ok (.invokevirtual 125, 3) := by decide +kernel
theorem dL_law_910 : decode cL_law 910 = .ok (.if_icmp .eq 168, 3) := by decide +kernel
theorem dL_law_913 : decode cL_law 913 = .ok (.iconst 0, 1) := by decide +kernel
theorem dL_law_914 : decode cL_law 914 = .ok (.ireturn, 1) := by decide +kernel
theorem dL_law_915 : decode cL_law 915 = .ok (.aload_n 1, 1) := by decide +kernel
theorem dL_law_916 : decode cL_law 916 = .ok (.aload_n 0, 1) := by decide +kernel
theorem dL_law_917 : decode cL_law 917 = .ok (.iload_n 3, 1) := by decide +kernel
theorem dL_law_918 : decode cL_law 918 = .ok (.iconst 1, 1) := by decide +kernel
theorem dL_law_919 : decode cL_law 919 = .ok (.iadd, 1) := by decide +kernel
theorem dL_law_920 : decode cL_law 920 = .ok (.iaload, 1) := by decide +kernel
theorem dL_law_921 : decode cL_law 921 = .ok (.aload_n 0, 1) := by decide +kernel
theorem dL_law_922 : decode cL_law 922 = .ok (.iload_n 3, 1) := by decide +kernel
theorem dL_law_923 : decode cL_law 923 = .ok (.iconst 2, 1) := by decide +kernel
theorem dL_law_924 : decode cL_law 924 = .ok (.iadd, 1) := by decide +kernel
theorem dL_law_925 : decode cL_law 925 = .ok (.iaload, 1) := by decide +kernel
theorem dL_law_926 : decode cL_law 926 = .ok (.invokevirtual 126, 3) := by decide +kernel
theorem dL_law_929 : decode cL_law 929 = .ok (.aload_n 2, 1) := by decide +kernel
theorem dL_law_930 : decode cL_law 930 = .ok (.aload_n 0, 1) := by decide +kernel
theorem dL_law_931 : decode cL_law 931 = .ok (.iload_n 3, 1) := by decide +kernel
theorem dL_law_932 : decode cL_law 932 = .ok (.iconst 1, 1) := by decide +kernel
theorem dL_law_933 : decode cL_law 933 = .ok (.iadd, 1) := by decide +kernel
theorem dL_law_934 : decode cL_law 934 = .ok (.iaload, 1) := by decide +kernel
theorem dL_law_935 : decode cL_law 935 = .ok (.aload_n 0, 1) := by decide +kernel
theorem dL_law_936 : decode cL_law 936 = .ok (.iload_n 3, 1) := by decide +kernel
theorem dL_law_937 : decode cL_law 937 = .ok (.iconst 2, 1) := by decide +kernel
theorem dL_law_938 : decode cL_law 938 = .ok (.iadd, 1) := by decide +kernel
theorem dL_law_939 : decode cL_law 939 = .ok (.iaload, 1) := by decide +kernel
theorem dL_law_940 : decode cL_law 940 = .ok (.invokevirtual 129, 3) := by decide +kernel
theorem dL_law_943 : decode cL_law 943 = .ok (.if_icmp .eq 135, 3) := by decide +kernel
theorem dL_law_946 : decode cL_law 946 = .ok (.iconst 0, 1) := by decide +kernel
theorem dL_law_947 : decode cL_law 947 = .ok (.ireturn, 1) := by decide +kernel
theorem dL_law_948 : decode cL_law 948 = .ok (.aload_n 1, 1) := by decide +kernel
theorem dL_law_949 : decode cL_law 949 = .ok (.aload_n 0, 1) := by decide +kernel
theorem dL_law_950 : decode cL_law 950 = .ok (.iload_n 3, 1) := by decide +kernel
theorem dL_law_951 : decode cL_law 951 = .ok (.iconst 1, 1) := by decide +kernel
theorem dL_law_952 : decode cL_law 952 = .ok (.iadd, 1) := by decide +kernel
theorem dL_law_953 : decode cL_law 953 = .ok (.iaload, 1) := by decide +kernel
theorem dL_law_954 : decode cL_law 954 = .ok (.invokevirtual 130, 3) := by decide +kernel
theorem dL_law_957 : decode cL_law 957 = .ok (.aload_n 2, 1) := by decide +kernel
theorem dL_law_958 : decode cL_law 958 = .ok (.aload_n 0, 1) := by decide +kernel
theorem dL_law_959 : decode cL_law 959 = .ok (.iload_n 3, 1) := by decide +kernel
theorem dL_law_960 : decode cL_law 960 = .ok (.iconst 1, 1) := by decide +kernel
theorem dL_law_961 : decode cL_law 961 = .ok (.iadd, 1) := by decide +kernel
theorem dL_law_962 : decode cL_law 962 = .ok (.iaload, 1) := by decide +kernel
theorem dL_law_963 : decode cL_law 963 = .ok (.invokevirtual 134, 3) := by decide +kernel
theorem dL_law_966 : decode cL_law 966 = .ok (.lcmp, 1) := by decide +kernel
theorem dL_law_967 : decode cL_law 967 = .ok (.ifCond .eq 111, 3) := by decide +kernel
theorem dL_law_970 : decode cL_law 970 = .ok (.iconst 0, 1) := by decide +kernel
theorem dL_law_971 : decode cL_law 971 = .ok (.ireturn, 1) := by decide +kernel
theorem dL_law_972 : decode cL_law 972 = .ok (.aload_n 1, 1) := by decide +kernel
theorem dL_law_973 : decode cL_law 973 = .ok (.aload_n 0, 1) := by decide +kernel
theorem dL_law_974 : decode cL_law 974 = .ok (.iload_n 3, 1) := by decide +kernel
theorem dL_law_975 : decode cL_law 975 = .ok (.iconst 1, 1) := by decide +kernel
theorem dL_law_976 : decode cL_law 976 = .ok (.iadd, 1) := by decide +kernel
theorem dL_law_977 : decode cL_law 977 = .ok (.iaload, 1) := by decide +kernel
theorem dL_law_978 : decode cL_law 978 = .ok (.invokevirtual 135, 3) := by decide +kernel
theorem dL_law_981 : decode cL_law 981 = .ok (.aload_n 2, 1) := by decide +kernel
theorem dL_law_982 : decode cL_law 982 = .ok (.aload_n 0, 1) := by decide +kernel
theorem dL_law_983 : decode cL_law 983 = .ok (.iload_n 3, 1) := by decide +kernel
theorem dL_law_984 : decode cL_law 984 = .ok (.iconst 1, 1) := by decide +kernel
theorem dL_law_985 : decode cL_law 985 = .ok (.iadd, 1) := by decide +kernel
theorem dL_law_986 : decode cL_law 986 = .ok (.iaload, 1) := by decide +kernel
theorem dL_law_987 : decode cL_law 987 = .ok (.invokevirtual 138, 3) := by decide +kernel
theorem dL_law_990 : decode cL_law 990 = .ok (.if_icmp .eq 88, 3) := by decide +kernel
theorem dL_law_993 : decode cL_law 993 = .ok (.iconst 0, 1) := by decide +kernel
theorem dL_law_994 : decode cL_law 994 = .ok (.ireturn, 1) := by decide +kernel
theorem dL_law_995 : decode cL_law 995 = .ok (.aload_n 1, 1) := by decide +kernel
theorem dL_law_996 : decode cL_law 996 = .ok (.aload_n 0, 1) := by decide +kernel
theorem dL_law_997 : decode cL_law 997 = .ok (.iload_n 3, 1) := by decide +kernel
theorem dL_law_998 : decode cL_law 998 = .ok (.iconst 1, 1) := by decide +kernel
theorem dL_law_999 : decode cL_law 999 = .ok (.iadd, 1) := by decide +kernel
theorem dL_law_1000 : decode cL_law 1000 = .ok (.iaload, 1) := by decide +kernel
theorem dL_law_1001 : decode cL_law 1001 = .ok (.invokevirtual 139, 3) := by decide +kernel
theorem dL_law_1004 : decode cL_law 1004 = .ok (.aload_n 2, 1) := by decide +kernel
theorem dL_law_1005 : decode cL_law 1005 = .ok (.aload_n 0, 1) := by decide +kernel
theorem dL_law_1006 : decode cL_law 1006 = .ok (.iload_n 3, 1) := by decide +kernel
theorem dL_law_1007 : decode cL_law 1007 = .ok (.iconst 1, 1) := by decide +kernel
theorem dL_law_1008 : decode cL_law 1008 = .ok (.iadd, 1) := by decide +kernel
theorem dL_law_1009 : decode cL_law 1009 = .ok (.iaload, 1) := by decide +kernel
theorem dL_law_1010 : decode cL_law 1010 = .ok (.invokevirtual 142, 3) := by decide +kernel
theorem dL_law_1013 : decode cL_law 1013 = .ok (.if_icmp .eq 65, 3) := by decide +kernel
theorem dL_law_1016 : decode cL_law 1016 = .ok (.iconst 0, 1) := by decide +kernel
theorem dL_law_1017 : decode cL_law 1017 = .ok (.ireturn, 1) := by decide +kernel
theorem dL_law_1018 : decode cL_law 1018 = .ok (.aload_n 1, 1) := by decide +kernel
theorem dL_law_1019 : decode cL_law 1019 = .ok (.aload_n 0, 1) := by decide +kernel
theorem dL_law_1020 : decode cL_law 1020 = .ok (.iload_n 3, 1) := by decide +kernel
theorem dL_law_1021 : decode cL_law 1021 = .ok (.iconst 1, 1) := by decide +kernel
theorem dL_law_1022 : decode cL_law 1022 = .ok (.iadd, 1) := by decide +kernel
theorem dL_law_1023 : decode cL_law 1023 = .ok (.iaload, 1) := by decide +kernel
theorem dL_law_1024 : decode cL_law 1024 = .ok (.invokevirtual 143, 3) := by decide +kernel
theorem dL_law_1027 : decode cL_law 1027 = .ok (.aload_n 2, 1) := by decide +kernel
theorem dL_law_1028 : decode cL_law 1028 = .ok (.aload_n 0, 1) := by decide +kernel
theorem dL_law_1029 : decode cL_law 1029 = .ok (.iload_n 3, 1) := by decide +kernel
theorem dL_law_1030 : decode cL_law 1030 = .ok (.iconst 1, 1) := by decide +kernel
theorem dL_law_1031 : decode cL_law 1031 = .ok (.iadd, 1) := by decide +kernel
theorem dL_law_1032 : decode cL_law 1032 = .ok (.iaload, 1) := by decide +kernel
theorem dL_law_1033 : decode cL_law 1033 = .ok (.invokevirtual 146, 3) := by decide +kernel
theorem dL_law_1036 : decode cL_law 1036 = .ok (.if_icmp .eq 42, 3) := by decide +kernel
theorem dL_law_1039 : decode cL_law 1039 = .ok (.iconst 0, 1) := by decide +kernel
theorem dL_law_1040 : decode cL_law 1040 = .ok (.ireturn, 1) := by decide +kernel
theorem dL_law_1041 : decode cL_law 1041 = .ok (.aload_n 1, 1) := by decide +kernel
theorem dL_law_1042 : decode cL_law 1042 = .ok (.aload_n 0, 1) := by decide +kernel
theorem dL_law_1043 : decode cL_law 1043 = .ok (.iload_n 3, 1) := by decide +kernel
theorem dL_law_1044 : decode cL_law 1044 = .ok (.iconst 1, 1) := by decide +kernel
theorem dL_law_1045 : decode cL_law 1045 = .ok (.iadd, 1) := by decide +kernel
theorem dL_law_1046 : decode cL_law 1046 = .ok (.iaload, 1) := by decide +kernel
theorem dL_law_1047 : decode cL_law 1047 = .ok (.invokevirtual 147, 3) := by decide +kernel
theorem dL_law_1050 : decode cL_law 1050 = .ok (.aload_n 2, 1) := by decide +kernel
theorem dL_law_1051 : decode cL_law 1051 = .ok (.aload_n 0, 1) := by decide +kernel
theorem dL_law_1052 : decode cL_law 1052 = .ok (.iload_n 3, 1) := by decide +kernel
theorem dL_law_1053 : decode cL_law 1053 = .ok (.iconst 1, 1) := by decide +kernel
theorem dL_law_1054 : decode cL_law 1054 = .ok (.iadd, 1) := by decide +kernel
theorem dL_law_1055 : decode cL_law 1055 = .ok (.iaload, 1) := by decide +kernel
theorem dL_law_1056 : decode cL_law 1056 = .ok (.invokevirtual 150, 3) := by decide +kernel
theorem dL_law_1059 : decode cL_law 1059 = .ok (.if_icmp .eq 19, 3) := by decide +kernel
theorem dL_law_1062 : decode cL_law 1062 = .ok (.iconst 0, 1) := by decide +kernel
theorem dL_law_1063 : decode cL_law 1063 = .ok (.ireturn, 1) := by decide +kernel
theorem dL_law_1064 : decode cL_law 1064 = .ok (.aload_n 1, 1) := by decide +kernel
theorem dL_law_1065 : decode cL_law 1065 = .ok (.invokevirtual 151, 3) := by decide +kernel
theorem dL_law_1068 : decode cL_law 1068 = .ok (.aload_n 2, 1) := by decide +kernel
theorem dL_law_1069 : decode cL_law 1069 = .ok (.invokevirtual 155, 3) := by decide +kernel
theorem dL_law_1072 : decode cL_law 1072 = .ok (.lcmp, 1) := by decide +kernel
theorem dL_law_1073 : decode cL_law 1073 = .ok (.ifCond .eq 5, 3) := by decide +kernel
theorem dL_law_1076 : decode cL_law 1076 = .ok (.iconst 0, 1) := by decide +kernel
theorem dL_law_1077 : decode cL_law 1077 = .ok (.ireturn, 1) := by decide +kernel
theorem dL_law_1078 : decode cL_law 1078 = .ok (.iinc 3 5, 3) := by decide +kernel
theorem dL_law_1081 : decode cL_law 1081 = .ok (.goto (-1063), 3) := by decide +kernel
theorem dL_law_1084 : decode cL_law 1084 = .ok (.iconst 1, 1) := by decide +kernel
theorem dL_law_1085 : decode cL_law 1085 = .ok (.ireturn, 1) := by decide +kernel
