theorem dX8_init_0 : decode cX8_init 0 = .ok (.aload_n 0, 1) := by decide +kernel
theorem dX8_init_1 : decode cX8_init 1 = .ok (.invokespecial 1, 3) := by decide +kernel
theorem dX8_init_4 : decode cX8_init 4 = .ok (.aload_n 0, 1) := by decide +kernel
theorem dX8_init_5 : decode cX8_init 5 = .ok (.bipush 40, 2) := by decide +kernel
theorem dX8_init_7 : decode cX8_init 7 = .ok (.newarray .int, 2) := by decide +kernel
theorem dX8_init_9 : decode cX8_init 9 = .ok (.putfield 7, 3) := by decide +kernel
theorem dX8_init_12 : decode cX8_init 12 = .ok (.aload_n 0, 1) := by decide +kernel
theorem dX8_init_13 : decode cX8_init 13 = .ok (.bipush 40, 2) := by decide +kernel
theorem dX8_init_15 : decode cX8_init 15 = .ok (.newarray .int, 2) := by decide +kernel
theorem dX8_init_17 : decode cX8_init 17 = .ok (.putfield 13, 3) := by decide +kernel
theorem dX8_init_20 : decode cX8_init 20 = .ok (.aload_n 0, 1) := by decide +kernel
theorem dX8_init_21 : decode cX8_init 21 = .ok (.bipush 40, 2) := by decide +kernel
theorem dX8_init_23 : decode cX8_init 23 = .ok (.newarray .int, 2) := by decide +kernel
theorem dX8_init_25 : decode cX8_init 25 = .ok (.putfield 16, 3) := by decide +kernel
theorem dX8_init_28 : decode cX8_init 28 = .ok (.aload_n 0, 1) := by decide +kernel
theorem dX8_init_29 : decode cX8_init 29 = .ok (.bipush 20, 2) := by decide +kernel
theorem dX8_init_31 : decode cX8_init 31 = .ok (.newarray .int, 2) := by decide +kernel
theorem dX8_init_33 : decode cX8_init 33 = .ok (.putfield 19, 3) := by decide +kernel
theorem dX8_init_36 : decode cX8_init 36 = .ok (.aload_n 0, 1) := by decide +kernel
theorem dX8_init_37 : decode cX8_init 37 = .ok (.bipush 20, 2) := by decide +kernel
theorem dX8_init_39 : decode cX8_init 39 = .ok (.newarray .int, 2) := by decide +kernel
theorem dX8_init_41 : decode cX8_init 41 = .ok (.putfield 22, 3) := by decide +kernel
theorem dX8_init_44 : decode cX8_init 44 = .ok (.aload_n 0, 1) := by decide +kernel
theorem dX8_init_45 : decode cX8_init 45 = .ok (.bipush 32, 2) := by decide +kernel
theorem dX8_init_47 : decode cX8_init 47 = .ok (.newarray .int, 2) := by decide +kernel
theorem dX8_init_49 : decode cX8_init 49 = .ok (.putfield 25, 3) := by decide +kernel
theorem dX8_init_52 : decode cX8_init 52 = .ok (.aload_n 0, 1) := by decide +kernel
theorem dX8_init_53 : decode cX8_init 53 = .ok (.sipush 300, 3) := by decide +kernel
theorem dX8_init_56 : decode cX8_init 56 = .ok (.newarray .int, 2) := by decide +kernel
theorem dX8_init_58 : decode cX8_init 58 = .ok (.putfield 28, 3) := by decide +kernel
theorem dX8_init_61 : decode cX8_init 61 = .ok (.aload_n 0, 1) := by decide +kernel
theorem dX8_init_62 : decode cX8_init 62 = .ok (.bipush 12, 2) := by decide +kernel
theorem dX8_init_64 : decode cX8_init 64 = .ok (.newarray .int, 2) := by decide +kernel
theorem dX8_init_66 : decode cX8_init 66 = .ok (.putfield 31, 3) := by decide +kernel
theorem dX8_init_69 : decode cX8_init 69 = .ok (.aload_n 0, 1) := by decide +kernel
theorem dX8_init_70 : decode cX8_init 70 = .ok (.bipush 60, 2) := by decide +kernel
theorem dX8_init_72 : decode cX8_init 72 = .ok (.newarray .int, 2) := by decide +kernel
theorem dX8_init_74 : decode cX8_init 74 = .ok (.putfield 34, 3) := by decide +kernel
theorem dX8_init_77 : decode cX8_init 77 = .ok (.aload_n 0, 1) := by decide +kernel
theorem dX8_init_78 : decode cX8_init 78 = .ok (.bipush 120, 2) := by decide +kernel
theorem dX8_init_80 : decode cX8_init 80 = .ok (.newarray .int, 2) := by decide +kernel
theorem dX8_init_82 : decode cX8_init 82 = .ok (.putfield 37, 3) := by decide +kernel
theorem dX8_init_85 : decode cX8_init 85 = .ok (.aload_n 0, 1) := by decide +kernel
theorem dX8_init_86 : decode cX8_init 86 = .ok (.sipush 480, 3) := by decide +kernel
theorem dX8_init_89 : decode cX8_init 89 = .ok (.newarray .int, 2) := by decide +kernel
theorem dX8_init_91 : decode cX8_init 91 = .ok (.putfield 40, 3) := by decide +kernel
theorem dX8_init_94 : decode cX8_init 94 = .ok (.aload_n 0, 1) := by decide +kernel
theorem dX8_init_95 : decode cX8_init 95 = .ok (.sipush 480, 3) := by decide +kernel
theorem dX8_init_98 : decode cX8_init 98 = .ok (.newarray .int, 2) := by decide +kernel
theorem dX8_init_100 : decode cX8_init 100 = .ok (.putfield 43, 3) := by decide +kernel
theorem dX8_init_103 : decode cX8_init 103 = .ok (.aload_n 0, 1) := by decide +kernel
theorem dX8_init_104 : decode cX8_init 104 = .ok (.sipush 400, 3) := by decide +kernel
theorem dX8_init_107 : decode cX8_init 107 = .ok (.newarray .long, 2) := by decide +kernel
theorem dX8_init_109 : decode cX8_init 109 = .ok (.putfield 46, 3) := by decide +kernel
theorem dX8_init_112 : decode cX8_init 112 = .ok (.aload_n 0, 1) := by decide +kernel
theorem dX8_init_113 : decode cX8_init 113 = .ok (.sipush 400, 3) := by decide +kernel
theorem dX8_init_116 : decode cX8_init 116 = .ok (.newarray .long, 2) := by decide +kernel
theorem dX8_init_118 : decode cX8_init 118 = .ok (.putfield 50, 3) := by decide +kernel
theorem dX8_init_121 : decode cX8_init 121 = .ok (.aload_n 0, 1) := by decide +kernel
theorem dX8_init_122 : decode cX8_init 122 = .ok (.sipush 400, 3) := by decide +kernel
theorem dX8_init_125 : decode cX8_init 125 = .ok (.newarray .long, 2) := by decide +kernel
theorem dX8_init_127 : decode cX8_init 127 = .ok (.putfield 53, 3) := by decide +kernel
theorem dX8_init_130 : decode cX8_init 130 = .ok (.aload_n 0, 1) := by decide +kernel
theorem dX8_init_131 : decode cX8_init 131 = .ok (.sipush 400, 3) := by decide +kernel
theorem dX8_init_134 : decode cX8_init 134 = .ok (.newarray .long, 2) := by decide +kernel
theorem dX8_init_136 : decode cX8_init 136 = .ok (.putfield 56, 3) := by decide +kernel
theorem dX8_init_139 : decode cX8_init 139 = .ok (.aload_n 0, 1) := by decide +kernel
theorem dX8_init_140 : decode cX8_init 140 = .ok (.bipush 50, 2) := by decide +kernel
theorem dX8_init_142 : decode cX8_init 142 = .ok (.newarray .int, 2) := by decide +kernel
theorem dX8_init_144 : decode cX8_init 144 = .ok (.putfield 59, 3) := by decide +kernel
theorem dX8_init_147 : decode cX8_init 147 = .ok (.return_, 1) := by decide +kernel
theorem dX8_in_0 : decode cX8_in 0 = .ok (.lload_n 0, 1) := by decide +kernel
theorem dX8_in_1 : decode cX8_in 1 = .ok (.lload_n 2, 1) := by decide +kernel
theorem dX8_in_2 : decode cX8_in 2 = .ok (.lcmp, 1) := by decide +kernel
theorem dX8_in_3 : decode cX8_in 3 = .ok (.ifCond .lt 14, 3) := by decide +kernel
theorem dX8_in_6 : decode cX8_in 6 = .ok (.lload_n 0, 1) := by decide +kernel
theorem dX8_in_7 : decode cX8_in 7 = .ok (.lload 4, 2) := by decide +kernel
theorem dX8_in_9 : decode cX8_in 9 = .ok (.lcmp, 1) := by decide +kernel
theorem dX8_in_10 : decode cX8_in 10 = .ok (.ifCond .gt 7, 3) := by decide +kernel
theorem dX8_in_13 : decode cX8_in 13 = .ok (.iconst 1, 1) := by decide +kernel
theorem dX8_in_14 : decode cX8_in 14 = .ok (.goto 4, 3) := by decide +kernel
theorem dX8_in_17 : decode cX8_in 17 = .ok (.iconst 0, 1) := by decide +kernel
theorem dX8_in_18 : decode cX8_in 18 = .ok (.ireturn, 1) := by decide +kernel
theorem dX8_rain_0 : decode cX8_rain 0 = .ok (.iload_n 1, 1) := by decide +kernel
theorem dX8_rain_1 : decode cX8_rain 1 = .ok (.i2l, 1) := by decide +kernel
theorem dX8_rain_2 : decode cX8_rain 2 = .ok (.lconst 1, 1) := by decide +kernel
theorem dX8_rain_3 : decode cX8_rain 3 = .ok (.ldc2_w 62, 3) := by decide +kernel
theorem dX8_rain_6 : decode cX8_rain 6 = .ok (.invokestatic 64, 3) := by decide +kernel
theorem dX8_rain_9 : decode cX8_rain 9 = .ok (.ifCond .eq 36, 3) := by decide +kernel
theorem dX8_rain_12 : decode cX8_rain 12 = .ok (.iload_n 2, 1) := by decide +kernel
theorem dX8_rain_13 : decode cX8_rain 13 = .ok (.i2l, 1) := by decide +kernel
theorem dX8_rain_14 : decode cX8_rain 14 = .ok (.lconst 1, 1) := by decide +kernel
theorem dX8_rain_15 : decode cX8_rain 15 = .ok (.ldc2_w 68, 3) := by decide +kernel
theorem dX8_rain_18 : decode cX8_rain 18 = .ok (.invokestatic 64, 3) := by decide +kernel
theorem dX8_rain_21 : decode cX8_rain 21 = .ok (.ifCond .eq 24, 3) := by decide +kernel
theorem dX8_rain_24 : decode cX8_rain 24 = .ok (.iload_n 3, 1) := by decide +kernel
theorem dX8_rain_25 : decode cX8_rain 25 = .ok (.i2l, 1) := by decide +kernel
theorem dX8_rain_26 : decode cX8_rain 26 = .ok (.lconst 1, 1) := by decide +kernel
theorem dX8_rain_27 : decode cX8_rain 27 = .ok (.ldc2_w 70, 3) := by decide +kernel
theorem dX8_rain_30 : decode cX8_rain 30 = .ok (.invokestatic 64, 3) := by decide +kernel
theorem dX8_rain_33 : decode cX8_rain 33 = .ok (.ifCond .eq 12, 3) := by decide +kernel
theorem dX8_rain_36 : decode cX8_rain 36 = .ok (.aload_n 0, 1) := by decide +kernel
theorem dX8_rain_37 : decode cX8_rain 37 = .ok (.getfield 72, 3) := by decide +kernel
theorem dX8_rain_40 : decode cX8_rain 40 = .ok (.bipush 40, 2) := by decide +kernel
theorem dX8_rain_42 : decode cX8_rain 42 = .ok (.if_icmp .ne 5, 3) := by decide +kernel
theorem dX8_rain_45 : decode cX8_rain 45 = .ok (.iconst (-1), 1) := by decide +kernel
theorem dX8_rain_46 : decode cX8_rain 46 = .ok (.ireturn, 1) := by decide +kernel
theorem dX8_rain_47 : decode cX8_rain 47 = .ok (.iconst 0, 1) := by decide +kernel
theorem dX8_rain_48 : decode cX8_rain 48 = .ok (.istore 4, 2) := by decide +kernel
theorem dX8_rain_50 : decode cX8_rain 50 = .ok (.iconst (-1), 1) := by decide +kernel
theorem dX8_rain_51 : decode cX8_rain 51 = .ok (.istore 5, 2) := by decide +kernel
theorem dX8_rain_53 : decode cX8_rain 53 = .ok (.iconst 0, 1) := by decide +kernel
theorem dX8_rain_54 : decode cX8_rain 54 = .ok (.istore 6, 2) := by decide +kernel
theorem dX8_rain_56 : decode cX8_rain 56 = .ok (.iload 6, 2) := by decide +kernel
theorem dX8_rain_58 : decode cX8_rain 58 = .ok (.aload_n 0, 1) := by decide +kernel
theorem dX8_rain_59 : decode cX8_rain 59 = .ok (.getfield 72, 3) := by decide +kernel
theorem dX8_rain_62 : decode cX8_rain 62 = .ok (.if_icmp .ge 27, 3) := by decide +kernel
theorem dX8_rain_65 : decode cX8_rain 65 = .ok (.aload_n 0, 1) := by decide +kernel
theorem dX8_rain_66 : decode cX8_rain 66 = .ok (.getfield 7, 3) := by decide +kernel
theorem dX8_rain_69 : decode cX8_rain 69 = .ok (.iload 6, 2) := by decide +kernel
theorem dX8_rain_71 : decode cX8_rain 71 = .ok (.iaload, 1) := by decide +kernel
theorem dX8_rain_72 : decode cX8_rain 72 = .ok (.iload_n 1, 1) := by decide +kernel
theorem dX8_rain_73 : decode cX8_rain 73 = .ok (.if_icmp .ne 10, 3) := by decide +kernel
theorem dX8_rain_76 : decode cX8_rain 76 = .ok (.iinc 4 1, 3) := by decide +kernel
theorem dX8_rain_79 : decode cX8_rain 79 = .ok (.iload 6, 2) := by decide +kernel
theorem dX8_rain_81 : decode cX8_rain 81 = .ok (.istore 5, 2) := by decide +kernel
theorem dX8_rain_83 : decode cX8_rain 83 = .ok (.iinc 6 1, 3) := by decide +kernel
theorem dX8_rain_86 : decode cX8_rain 86 = .ok (.goto (-30), 3) := by decide +kernel
theorem dX8_rain_89 : decode cX8_rain 89 = .ok (.iload 5, 2) := by decide +kernel
theorem dX8_rain_91 : decode cX8_rain 91 = .ok (.ifCond .lt 53, 3) := by decide +kernel
theorem dX8_rain_94 : decode cX8_rain 94 = .ok (.iload_n 2, 1) := by decide +kernel
theorem dX8_rain_95 : decode cX8_rain 95 = .ok (.aload_n 0, 1) := by decide +kernel
theorem dX8_rain_96 : decode cX8_rain 96 = .ok (.getfield 13, 3) := by decide +kernel
theorem dX8_rain_99 : decode cX8_rain 99 = .ok (.iload 5, 2) := by decide +kernel
theorem dX8_rain_101 : decode cX8_rain 101 = .ok (.iaload, 1) := by decide +kernel
theorem dX8_rain_102 : decode cX8_rain 102 = .ok (.if_icmp .le 40, 3) := by decide +kernel
theorem dX8_rain_105 : decode cX8_rain 105 = .ok (.iload_n 3, 1) := by decide +kernel
theorem dX8_rain_106 : decode cX8_rain 106 = .ok (.aload_n 0, 1) := by decide +kernel
theorem dX8_rain_107 : decode cX8_rain 107 = .ok (.getfield 16, 3) := by decide +kernel
theorem dX8_rain_110 : decode cX8_rain 110 = .ok (.iload 5, 2) := by decide +kernel
theorem dX8_rain_112 : decode cX8_rain 112 = .ok (.iaload, 1) := by decide +kernel
theorem dX8_rain_113 : decode cX8_rain 113 = .ok (.if_icmp .le 29, 3) := by decide +kernel
theorem dX8_rain_116 : decode cX8_rain 116 = .ok (.iload_n 3, 1) := by decide +kernel
theorem dX8_rain_117 : decode cX8_rain 117 = .ok (.i2l, 1) := by decide +kernel
theorem dX8_rain_118 : decode cX8_rain 118 = .ok (.aload_n 0, 1) := by decide +kernel
theorem dX8_rain_119 : decode cX8_rain 119 = .ok (.getfield 13, 3) := by decide +kernel
theorem dX8_rain_122 : decode cX8_rain 122 = .ok (.iload 5, 2) := by decide +kernel
theorem dX8_rain_124 : decode cX8_rain 124 = .ok (.iaload, 1) := by decide +kernel
theorem dX8_rain_125 : decode cX8_rain 125 = .ok (.i2l, 1) := by decide +kernel
theorem dX8_rain_126 : decode cX8_rain 126 = .ok (.lmul, 1) := by decide +kernel
theorem dX8_rain_127 : decode cX8_rain 127 = .ok (.aload_n 0, 1) := by decide +kernel
theorem dX8_rain_128 : decode cX8_rain 128 = .ok (.getfield 16, 3) := by decide +kernel
theorem dX8_rain_131 : decode cX8_rain 131 = .ok (.iload 5, 2) := by decide +kernel
theorem dX8_rain_133 : decode cX8_rain 133 = .ok (.iaload, 1) := by decide +kernel
theorem dX8_rain_134 : decode cX8_rain 134 = .ok (.i2l, 1) := by decide +kernel
theorem dX8_rain_135 : decode cX8_rain 135 = .ok (.iload_n 2, 1) := by decide +kernel
theorem dX8_rain_136 : decode cX8_rain 136 = .ok (.i2l, 1) := by decide +kernel
theorem dX8_rain_137 : decode cX8_rain 137 = .ok (.lmul, 1) := by decide +kernel
theorem dX8_rain_138 : decode cX8_rain 138 = .ok (.lcmp, 1) := by decide +kernel
theorem dX8_rain_139 : decode cX8_rain 139 = .ok (.ifCond .le 5, 3) := by decide +kernel
theorem dX8_rain_142 : decode cX8_rain 142 = .ok (.iconst (-1), 1) := by decide +kernel
theorem dX8_rain_143 : decode cX8_rain 143 = .ok (.ireturn, 1) := by decide +kernel
theorem dX8_rain_144 : decode cX8_rain 144 = .ok (.aload_n 0, 1) := by decide +kernel
theorem dX8_rain_145 : decode cX8_rain 145 = .ok (.getfield 7, 3) := by decide +kernel
theorem dX8_rain_148 : decode cX8_rain 148 = .ok (.aload_n 0, 1) := by decide +kernel
theorem dX8_rain_149 : decode cX8_rain 149 = .ok (.getfield 72, 3) := by decide +kernel
theorem dX8_rain_152 : decode cX8_rain 152 = .ok (.iload_n 1, 1) := by decide +kernel
theorem dX8_rain_153 : decode cX8_rain 153 = .ok (.iastore, 1) := by decide +kernel
theorem dX8_rain_154 : decode cX8_rain 154 = .ok (.aload_n 0, 1) := by decide +kernel
theorem dX8_rain_155 : decode cX8_rain 155 = .ok (.getfield 13, 3) := by decide +kernel
theorem dX8_rain_158 : decode cX8_rain 158 = .ok (.aload_n 0, 1) := by decide +kernel
theorem dX8_rain_159 : decode cX8_rain 159 = .ok (.getfield 72, 3) := by decide +kernel
theorem dX8_rain_162 : decode cX8_rain 162 = .ok (.iload_n 2, 1) := by decide +kernel
theorem dX8_rain_163 : decode cX8_rain 163 = .ok (.iastore, 1) := by decide +kernel
theorem dX8_rain_164 : decode cX8_rain 164 = .ok (.aload_n 0, 1) := by decide +kernel
theorem dX8_rain_165 : decode cX8_rain 165 = .ok (.getfield 16, 3) := by decide +kernel
theorem dX8_rain_168 : decode cX8_rain 168 = .ok (.aload_n 0, 1) := by decide +kernel
theorem dX8_rain_169 : decode cX8_rain 169 = .ok (.getfield 72, 3) := by decide +kernel
theorem dX8_rain_172 : decode cX8_rain 172 = .ok (.iload_n 3, 1) := by decide +kernel
theorem dX8_rain_173 : decode cX8_rain 173 = .ok (.iastore, 1) := by decide +kernel
theorem dX8_rain_174 : decode cX8_rain 174 = .ok (.aload_n 0, 1) := by decide +kernel
theorem dX8_rain_175 : decode cX8_rain 175 = .ok (.dup, 1) := by decide +kernel
theorem dX8_rain_176 : decode cX8_rain 176 = .ok (.getfield 72, 3) := by decide +kernel
theorem dX8_rain_179 : decode cX8_rain 179 = .ok (.iconst 1, 1) := by decide +kernel
theorem dX8_rain_180 : decode cX8_rain 180 = .ok (.iadd, 1) := by decide +kernel
theorem dX8_rain_181 : decode cX8_rain 181 = .ok (.putfield 72, 3) := by decide +kernel
theorem dX8_rain_184 : decode cX8_rain 184 = .ok (.iload 4, 2) := by decide +kernel
theorem dX8_rain_186 : decode cX8_rain 186 = .ok (.iconst 1, 1) := by decide +kernel
theorem dX8_rain_187 : decode cX8_rain 187 = .ok (.iadd, 1) := by decide +kernel
theorem dX8_rain_188 : decode cX8_rain 188 = .ok (.ireturn, 1) := by decide +kernel
theorem dX8_worst_0 : decode cX8_worst 0 = .ok (.iconst (-1), 1) := by decide +kernel
theorem dX8_worst_1 : decode cX8_worst 1 = .ok (.istore 4, 2) := by decide +kernel
theorem dX8_worst_3 : decode cX8_worst 3 = .ok (.iload_n 2, 1) := by decide +kernel
theorem dX8_worst_4 : decode cX8_worst 4 = .ok (.i2l, 1) := by decide +kernel
theorem dX8_worst_5 : decode cX8_worst 5 = .ok (.lconst 0, 1) := by decide +kernel
theorem dX8_worst_6 : decode cX8_worst 6 = .ok (.ldc2_w 76, 3) := by decide +kernel
theorem dX8_worst_9 : decode cX8_worst 9 = .ok (.invokestatic 64, 3) := by decide +kernel
theorem dX8_worst_12 : decode cX8_worst 12 = .ok (.ifCond .eq 15, 3) := by decide +kernel
theorem dX8_worst_15 : decode cX8_worst 15 = .ok (.iload_n 3, 1) := by decide +kernel
theorem dX8_worst_16 : decode cX8_worst 16 = .ok (.i2l, 1) := by decide +kernel
theorem dX8_worst_17 : decode cX8_worst 17 = .ok (.lconst 0, 1) := by decide +kernel
theorem dX8_worst_18 : decode cX8_worst 18 = .ok (.ldc2_w 70, 3) := by decide +kernel
theorem dX8_worst_21 : decode cX8_worst 21 = .ok (.invokestatic 64, 3) := by decide +kernel
theorem dX8_worst_24 : decode cX8_worst 24 = .ok (.ifCond .ne 5, 3) := by decide +kernel
theorem dX8_worst_27 : decode cX8_worst 27 = .ok (.iconst (-1), 1) := by decide +kernel
theorem dX8_worst_28 : decode cX8_worst 28 = .ok (.ireturn, 1) := by decide +kernel
theorem dX8_worst_29 : decode cX8_worst 29 = .ok (.iconst 0, 1) := by decide +kernel
theorem dX8_worst_30 : decode cX8_worst 30 = .ok (.istore 5, 2) := by decide +kernel
theorem dX8_worst_32 : decode cX8_worst 32 = .ok (.iload 5, 2) := by decide +kernel
theorem dX8_worst_34 : decode cX8_worst 34 = .ok (.aload_n 0, 1) := by decide +kernel
theorem dX8_worst_35 : decode cX8_worst 35 = .ok (.getfield 72, 3) := by decide +kernel
theorem dX8_worst_38 : decode cX8_worst 38 = .ok (.if_icmp .ge 50, 3) := by decide +kernel
theorem dX8_worst_41 : decode cX8_worst 41 = .ok (.aload_n 0, 1) := by decide +kernel
theorem dX8_worst_42 : decode cX8_worst 42 = .ok (.getfield 7, 3) := by decide +kernel
theorem dX8_worst_45 : decode cX8_worst 45 = .ok (.iload 5, 2) := by decide +kernel
theorem dX8_worst_47 : decode cX8_worst 47 = .ok (.iaload, 1) := by decide +kernel
theorem dX8_worst_48 : decode cX8_worst 48 = .ok (.iload_n 1, 1) := by decide +kernel
theorem dX8_worst_49 : decode cX8_worst 49 = .ok (.if_icmp .ne 33, 3) := by decide +kernel
theorem dX8_worst_52 : decode cX8_worst 52 = .ok (.iload 4, 2) := by decide +kernel
theorem dX8_worst_54 : decode cX8_worst 54 = .ok (.iconst (-1), 1) := by decide +kernel
theorem dX8_worst_55 : decode cX8_worst 55 = .ok (.if_icmp .eq 23, 3) := by decide +kernel
theorem dX8_worst_58 : decode cX8_worst 58 = .ok (.aload_n 0, 1) := by decide +kernel
theorem dX8_worst_59 : decode cX8_worst 59 = .ok (.iload 5, 2) := by decide +kernel
theorem dX8_worst_61 : decode cX8_worst 61 = .ok (.iload_n 2, 1) := by decide +kernel
theorem dX8_worst_62 : decode cX8_worst 62 = .ok (.iload_n 3, 1) := by decide +kernel
theorem dX8_worst_63 : decode cX8_worst 63 = .ok (.invokevirtual 78, 3) := by decide +kernel
theorem dX8_worst_66 : decode cX8_worst 66 = .ok (.aload_n 0, 1) := by decide +kernel
theorem dX8_worst_67 : decode cX8_worst 67 = .ok (.iload 4, 2) := by decide +kernel
theorem dX8_worst_69 : decode cX8_worst 69 = .ok (.iload_n 2, 1) := by decide +kernel
theorem dX8_worst_70 : decode cX8_worst 70 = .ok (.iload_n 3, 1) := by decide +kernel
theorem dX8_worst_71 : decode cX8_worst 71 = .ok (.invokevirtual 78, 3) := by decide +kernel
theorem dX8_worst_74 : decode cX8_worst 74 = .ok (.lcmp, 1) := by decide +kernel
theorem dX8_worst_75 : decode cX8_worst 75 = .ok (.ifCond .le 7, 3) := by decide +kernel
theorem dX8_worst_78 : decode cX8_worst 78 = .ok (.iload 5, 2) := by decide +kernel
theorem dX8_worst_80 : decode cX8_worst 80 = .ok (.istore 4, 2) := by decide +kernel
theorem dX8_worst_82 : decode cX8_worst 82 = .ok (.iinc 5 1, 3) := by decide +kernel
theorem dX8_worst_85 : decode cX8_worst 85 = .ok (.goto (-53), 3) := by decide +kernel
theorem dX8_worst_88 : decode cX8_worst 88 = .ok (.iload 4, 2) := by decide +kernel
theorem dX8_worst_90 : decode cX8_worst 90 = .ok (.ireturn, 1) := by decide +kernel
theorem dX8_need_0 : decode cX8_need 0 = .ok (.aload_n 0, 1) := by decide +kernel
theorem dX8_need_1 : decode cX8_need 1 = .ok (.getfield 16, 3) := by decide +kernel
theorem dX8_need_4 : decode cX8_need 4 = .ok (.iload_n 1, 1) := by decide +kernel
theorem dX8_need_5 : decode cX8_need 5 = .ok (.iaload, 1) := by decide +kernel
theorem dX8_need_6 : decode cX8_need 6 = .ok (.i2l, 1) := by decide +kernel
theorem dX8_need_7 : decode cX8_need 7 = .ok (.iload_n 2, 1) := by decide +kernel
theorem dX8_need_8 : decode cX8_need 8 = .ok (.i2l, 1) := by decide +kernel
theorem dX8_need_9 : decode cX8_need 9 = .ok (.lmul, 1) := by decide +kernel
theorem dX8_need_10 : decode cX8_need 10 = .ok (.ldc2_w 82, 3) := by decide +kernel
theorem dX8_need_13 : decode cX8_need 13 = .ok (.ldiv, 1) := by decide +kernel
theorem dX8_need_14 : decode cX8_need 14 = .ok (.ldc2_w 84, 3) := by decide +kernel
theorem dX8_need_17 : decode cX8_need 17 = .ok (.iload_n 3, 1) := by decide +kernel
theorem dX8_need_18 : decode cX8_need 18 = .ok (.i2l, 1) := by decide +kernel
theorem dX8_need_19 : decode cX8_need 19 = .ok (.lmul, 1) := by decide +kernel
theorem dX8_need_20 : decode cX8_need 20 = .ok (.aload_n 0, 1) := by decide +kernel
theorem dX8_need_21 : decode cX8_need 21 = .ok (.getfield 13, 3) := by decide +kernel
theorem dX8_need_24 : decode cX8_need 24 = .ok (.iload_n 1, 1) := by decide +kernel
theorem dX8_need_25 : decode cX8_need 25 = .ok (.iaload, 1) := by decide +kernel
theorem dX8_need_26 : decode cX8_need 26 = .ok (.i2l, 1) := by decide +kernel
theorem dX8_need_27 : decode cX8_need 27 = .ok (.lmul, 1) := by decide +kernel
theorem dX8_need_28 : decode cX8_need 28 = .ok (.lsub, 1) := by decide +kernel
theorem dX8_need_29 : decode cX8_need 29 = .ok (.lreturn, 1) := by decide +kernel
theorem dX8_volume_0 : decode cX8_volume 0 = .ok (.aload_n 0, 1) := by decide +kernel
theorem dX8_volume_1 : decode cX8_volume 1 = .ok (.iload_n 1, 1) := by decide +kernel
theorem dX8_volume_2 : decode cX8_volume 2 = .ok (.iload_n 2, 1) := by decide +kernel
theorem dX8_volume_3 : decode cX8_volume 3 = .ok (.iload_n 3, 1) := by decide +kernel
theorem dX8_volume_4 : decode cX8_volume 4 = .ok (.invokevirtual 86, 3) := by decide +kernel
theorem dX8_volume_7 : decode cX8_volume 7 = .ok (.istore 4, 2) := by decide +kernel
theorem dX8_volume_9 : decode cX8_volume 9 = .ok (.iload 4, 2) := by decide +kernel
theorem dX8_volume_11 : decode cX8_volume 11 = .ok (.iconst (-1), 1) := by decide +kernel
theorem dX8_volume_12 : decode cX8_volume 12 = .ok (.if_icmp .ne 7, 3) := by decide +kernel
theorem dX8_volume_15 : decode cX8_volume 15 = .ok (.ldc2_w 90, 3) := by decide +kernel
theorem dX8_volume_18 : decode cX8_volume 18 = .ok (.lreturn, 1) := by decide +kernel
theorem dX8_volume_19 : decode cX8_volume 19 = .ok (.aload_n 0, 1) := by decide +kernel
theorem dX8_volume_20 : decode cX8_volume 20 = .ok (.iload 4, 2) := by decide +kernel
theorem dX8_volume_22 : decode cX8_volume 22 = .ok (.iload_n 2, 1) := by decide +kernel
theorem dX8_volume_23 : decode cX8_volume 23 = .ok (.iload_n 3, 1) := by decide +kernel
theorem dX8_volume_24 : decode cX8_volume 24 = .ok (.invokevirtual 78, 3) := by decide +kernel
theorem dX8_volume_27 : decode cX8_volume 27 = .ok (.lstore 5, 2) := by decide +kernel
theorem dX8_volume_29 : decode cX8_volume 29 = .ok (.lload 5, 2) := by decide +kernel
theorem dX8_volume_31 : decode cX8_volume 31 = .ok (.lconst 0, 1) := by decide +kernel
theorem dX8_volume_32 : decode cX8_volume 32 = .ok (.lcmp, 1) := by decide +kernel
theorem dX8_volume_33 : decode cX8_volume 33 = .ok (.ifCond .ge 7, 3) := by decide +kernel
theorem dX8_volume_36 : decode cX8_volume 36 = .ok (.lconst 0, 1) := by decide +kernel
theorem dX8_volume_37 : decode cX8_volume 37 = .ok (.goto 5, 3) := by decide +kernel
theorem dX8_volume_40 : decode cX8_volume 40 = .ok (.lload 5, 2) := by decide +kernel
theorem dX8_volume_42 : decode cX8_volume 42 = .ok (.lreturn, 1) := by decide +kernel
theorem dX8_by_0 : decode cX8_by 0 = .ok (.aload_n 0, 1) := by decide +kernel
theorem dX8_by_1 : decode cX8_by 1 = .ok (.iload_n 1, 1) := by decide +kernel
theorem dX8_by_2 : decode cX8_by 2 = .ok (.iload_n 2, 1) := by decide +kernel
theorem dX8_by_3 : decode cX8_by 3 = .ok (.iload_n 3, 1) := by decide +kernel
theorem dX8_by_4 : decode cX8_by 4 = .ok (.invokevirtual 86, 3) := by decide +kernel
theorem dX8_by_7 : decode cX8_by 7 = .ok (.istore 4, 2) := by decide +kernel
theorem dX8_by_9 : decode cX8_by 9 = .ok (.iload 4, 2) := by decide +kernel
theorem dX8_by_11 : decode cX8_by 11 = .ok (.iconst (-1), 1) := by decide +kernel
theorem dX8_by_12 : decode cX8_by 12 = .ok (.if_icmp .ne 7, 3) := by decide +kernel
theorem dX8_by_15 : decode cX8_by 15 = .ok (.iconst (-1), 1) := by decide +kernel
theorem dX8_by_16 : decode cX8_by 16 = .ok (.goto 10, 3) := by decide +kernel
theorem dX8_by_19 : decode cX8_by 19 = .ok (.aload_n 0, 1) := by decide +kernel
theorem dX8_by_20 : decode cX8_by 20 = .ok (.getfield 13, 3) := by decide +kernel
theorem dX8_by_23 : decode cX8_by 23 = .ok (.iload 4, 2) := by decide +kernel
theorem dX8_by_25 : decode cX8_by 25 = .ok (.iaload, 1) := by decide +kernel
theorem dX8_by_26 : decode cX8_by 26 = .ok (.ireturn, 1) := by decide +kernel
theorem dX8_outflow_0 : decode cX8_outflow 0 = .ok (.aload_n 0, 1) := by decide +kernel
theorem dX8_outflow_1 : decode cX8_outflow 1 = .ok (.iload_n 1, 1) := by decide +kernel
theorem dX8_outflow_2 : decode cX8_outflow 2 = .ok (.iload_n 2, 1) := by decide +kernel
theorem dX8_outflow_3 : decode cX8_outflow 3 = .ok (.iconst 0, 1) := by decide +kernel
theorem dX8_outflow_4 : decode cX8_outflow 4 = .ok (.invokevirtual 86, 3) := by decide +kernel
theorem dX8_outflow_7 : decode cX8_outflow 7 = .ok (.iconst (-1), 1) := by decide +kernel
theorem dX8_outflow_8 : decode cX8_outflow 8 = .ok (.if_icmp .eq 14, 3) := by decide +kernel
theorem dX8_outflow_11 : decode cX8_outflow 11 = .ok (.lload_n 3, 1) := by decide +kernel
theorem dX8_outflow_12 : decode cX8_outflow 12 = .ok (.lconst 0, 1) := by decide +kernel
theorem dX8_outflow_13 : decode cX8_outflow 13 = .ok (.ldc2_w 92, 3) := by decide +kernel
theorem dX8_outflow_16 : decode cX8_outflow 16 = .ok (.invokestatic 64, 3) := by decide +kernel
theorem dX8_outflow_19 : decode cX8_outflow 19 = .ok (.ifCond .ne 5, 3) := by decide +kernel
theorem dX8_outflow_22 : decode cX8_outflow 22 = .ok (.iconst (-1), 1) := by decide +kernel
theorem dX8_outflow_23 : decode cX8_outflow 23 = .ok (.ireturn, 1) := by decide +kernel
theorem dX8_outflow_24 : decode cX8_outflow 24 = .ok (.lconst 0, 1) := by decide +kernel
theorem dX8_outflow_25 : decode cX8_outflow 25 = .ok (.lstore 5, 2) := by decide +kernel
theorem dX8_outflow_27 : decode cX8_outflow 27 = .ok (.iconst 0, 1) := by decide +kernel
theorem dX8_outflow_28 : decode cX8_outflow 28 = .ok (.istore 7, 2) := by decide +kernel
theorem dX8_outflow_30 : decode cX8_outflow 30 = .ok (.iload 7, 2) := by decide +kernel
theorem dX8_outflow_32 : decode cX8_outflow 32 = .ok (.aload_n 0, 1) := by decide +kernel
theorem dX8_outflow_33 : decode cX8_outflow 33 = .ok (.getfield 72, 3) := by decide +kernel
theorem dX8_outflow_36 : decode cX8_outflow 36 = .ok (.if_icmp .ge 86, 3) := by decide +kernel
theorem dX8_outflow_39 : decode cX8_outflow 39 = .ok (.aload_n 0, 1) := by decide +kernel
theorem dX8_outflow_40 : decode cX8_outflow 40 = .ok (.getfield 7, 3) := by decide +kernel
theorem dX8_outflow_43 : decode cX8_outflow 43 = .ok (.iload 7, 2) := by decide +kernel
theorem dX8_outflow_45 : decode cX8_outflow 45 = .ok (.iaload, 1) := by decide +kernel
theorem dX8_outflow_46 : decode cX8_outflow 46 = .ok (.iload_n 1, 1) := by decide +kernel
theorem dX8_outflow_47 : decode cX8_outflow 47 = .ok (.if_icmp .ne 69, 3) := by decide +kernel
theorem dX8_outflow_50 : decode cX8_outflow 50 = .ok (.aload_n 0, 1) := by decide +kernel
theorem dX8_outflow_51 : decode cX8_outflow 51 = .ok (.iload 7, 2) := by decide +kernel
theorem dX8_outflow_53 : decode cX8_outflow 53 = .ok (.iload_n 2, 1) := by decide +kernel
theorem dX8_outflow_54 : decode cX8_outflow 54 = .ok (.iconst 0, 1) := by decide +kernel
theorem dX8_outflow_55 : decode cX8_outflow 55 = .ok (.invokevirtual 78, 3) := by decide +kernel
theorem dX8_outflow_58 : decode cX8_outflow 58 = .ok (.lload_n 3, 1) := by decide +kernel
theorem dX8_outflow_59 : decode cX8_outflow 59 = .ok (.lsub, 1) := by decide +kernel
theorem dX8_outflow_60 : decode cX8_outflow 60 = .ok (.lstore 8, 2) := by decide +kernel
theorem dX8_outflow_62 : decode cX8_outflow 62 = .ok (.ldc2_w 84, 3) := by decide +kernel
theorem dX8_outflow_65 : decode cX8_outflow 65 = .ok (.aload_n 0, 1) := by decide +kernel
theorem dX8_outflow_66 : decode cX8_outflow 66 = .ok (.getfield 13, 3) := by decide +kernel
theorem dX8_outflow_69 : decode cX8_outflow 69 = .ok (.iload 7, 2) := by decide +kernel
theorem dX8_outflow_71 : decode cX8_outflow 71 = .ok (.iaload, 1) := by decide +kernel
theorem dX8_outflow_72 : decode cX8_outflow 72 = .ok (.i2l, 1) := by decide +kernel
theorem dX8_outflow_73 : decode cX8_outflow 73 = .ok (.lmul, 1) := by decide +kernel
theorem dX8_outflow_74 : decode cX8_outflow 74 = .ok (.lstore 10, 2) := by decide +kernel
theorem dX8_outflow_76 : decode cX8_outflow 76 = .ok (.lload 8, 2) := by decide +kernel
theorem dX8_outflow_78 : decode cX8_outflow 78 = .ok (.lconst 0, 1) := by decide +kernel
theorem dX8_outflow_79 : decode cX8_outflow 79 = .ok (.lcmp, 1) := by decide +kernel
theorem dX8_outflow_80 : decode cX8_outflow 80 = .ok (.ifCond .gt 7, 3) := by decide +kernel
theorem dX8_outflow_83 : decode cX8_outflow 83 = .ok (.lconst 0, 1) := by decide +kernel
theorem dX8_outflow_84 : decode cX8_outflow 84 = .ok (.goto 13, 3) := by decide +kernel
theorem dX8_outflow_87 : decode cX8_outflow 87 = .ok (.lload 8, 2) := by decide +kernel
theorem dX8_outflow_89 : decode cX8_outflow 89 = .ok (.lload 10, 2) := by decide +kernel
theorem dX8_outflow_91 : decode cX8_outflow 91 = .ok (.ladd, 1) := by decide +kernel
theorem dX8_outflow_92 : decode cX8_outflow 92 = .ok (.lconst 1, 1) := by decide +kernel
theorem dX8_outflow_93 : decode cX8_outflow 93 = .ok (.lsub, 1) := by decide +kernel
theorem dX8_outflow_94 : decode cX8_outflow 94 = .ok (.lload 10, 2) := by decide +kernel
theorem dX8_outflow_96 : decode cX8_outflow 96 = .ok (.ldiv, 1) := by decide +kernel
theorem dX8_outflow_97 : decode cX8_outflow 97 = .ok (.lstore 12, 2) := by decide +kernel
theorem dX8_outflow_99 : decode cX8_outflow 99 = .ok (.lload 12, 2) := by decide +kernel
theorem dX8_outflow_101 : decode cX8_outflow 101 = .ok (.lload 5, 2) := by decide +kernel
theorem dX8_outflow_103 : decode cX8_outflow 103 = .ok (.lcmp, 1) := by decide +kernel
theorem dX8_outflow_104 : decode cX8_outflow 104 = .ok (.ifCond .le 8, 3) := by decide +kernel
theorem dX8_outflow_107 : decode cX8_outflow 107 = .ok (.lload 12, 2) := by decide +kernel
theorem dX8_outflow_109 : decode cX8_outflow 109 = .ok (.goto 5, 3) := by decide +kernel
theorem dX8_outflow_112 : decode cX8_outflow 112 = .ok (.lload 5, 2) := by decide +kernel
theorem dX8_outflow_114 : decode cX8_outflow 114 = .ok (.lstore 5, 2) := by decide +kernel
theorem dX8_outflow_116 : decode cX8_outflow 116 = .ok (.iinc 7 1, 3) := by decide +kernel
theorem dX8_outflow_119 : decode cX8_outflow 119 = .ok (.goto (-89), 3) := by decide +kernel
theorem dX8_outflow_122 : decode cX8_outflow 122 = .ok (.lload 5, 2) := by decide +kernel
theorem dX8_outflow_124 : decode cX8_outflow 124 = .ok (.ldc2_w 70, 3) := by decide +kernel
theorem dX8_outflow_127 : decode cX8_outflow 127 = .ok (.lcmp, 1) := by decide +kernel
theorem dX8_outflow_128 : decode cX8_outflow 128 = .ok (.ifCond .le 7, 3) := by decide +kernel
theorem dX8_outflow_131 : decode cX8_outflow 131 = .ok (.iconst (-1), 1) := by decide +kernel
theorem dX8_outflow_132 : decode cX8_outflow 132 = .ok (.goto 6, 3) := by decide +kernel
theorem dX8_outflow_135 : decode cX8_outflow 135 = .ok (.lload 5, 2) := by decide +kernel
theorem dX8_outflow_137 : decode cX8_outflow 137 = .ok (.l2i, 1) := by decide +kernel
theorem dX8_outflow_138 : decode cX8_outflow 138 = .ok (.ireturn, 1) := by decide +kernel
theorem dX8_level_0 : decode cX8_level 0 = .ok (.iload_n 1, 1) := by decide +kernel
theorem dX8_level_1 : decode cX8_level 1 = .ok (.i2l, 1) := by decide +kernel
theorem dX8_level_2 : decode cX8_level 2 = .ok (.ldc2_w 94, 3) := by decide +kernel
theorem dX8_level_5 : decode cX8_level 5 = .ok (.ldc2_w 70, 3) := by decide +kernel
theorem dX8_level_8 : decode cX8_level 8 = .ok (.invokestatic 64, 3) := by decide +kernel
theorem dX8_level_11 : decode cX8_level 11 = .ok (.ifCond .eq 24, 3) := by decide +kernel
theorem dX8_level_14 : decode cX8_level 14 = .ok (.iload_n 2, 1) := by decide +kernel
theorem dX8_level_15 : decode cX8_level 15 = .ok (.i2l, 1) := by decide +kernel
theorem dX8_level_16 : decode cX8_level 16 = .ok (.lconst 0, 1) := by decide +kernel
theorem dX8_level_17 : decode cX8_level 17 = .ok (.ldc2_w 76, 3) := by decide +kernel
theorem dX8_level_20 : decode cX8_level 20 = .ok (.invokestatic 64, 3) := by decide +kernel
theorem dX8_level_23 : decode cX8_level 23 = .ok (.ifCond .eq 12, 3) := by decide +kernel
theorem dX8_level_26 : decode cX8_level 26 = .ok (.aload_n 0, 1) := by decide +kernel
theorem dX8_level_27 : decode cX8_level 27 = .ok (.getfield 96, 3) := by decide +kernel
theorem dX8_level_30 : decode cX8_level 30 = .ok (.bipush 20, 2) := by decide +kernel
theorem dX8_level_32 : decode cX8_level 32 = .ok (.if_icmp .ne 5, 3) := by decide +kernel
theorem dX8_level_35 : decode cX8_level 35 = .ok (.iconst (-1), 1) := by decide +kernel
theorem dX8_level_36 : decode cX8_level 36 = .ok (.ireturn, 1) := by decide +kernel
theorem dX8_level_37 : decode cX8_level 37 = .ok (.aload_n 0, 1) := by decide +kernel
theorem dX8_level_38 : decode cX8_level 38 = .ok (.getfield 96, 3) := by decide +kernel
theorem dX8_level_41 : decode cX8_level 41 = .ok (.ifCond .le 35, 3) := by decide +kernel
theorem dX8_level_44 : decode cX8_level 44 = .ok (.iload_n 1, 1) := by decide +kernel
theorem dX8_level_45 : decode cX8_level 45 = .ok (.aload_n 0, 1) := by decide +kernel
theorem dX8_level_46 : decode cX8_level 46 = .ok (.getfield 19, 3) := by decide +kernel
theorem dX8_level_49 : decode cX8_level 49 = .ok (.aload_n 0, 1) := by decide +kernel
theorem dX8_level_50 : decode cX8_level 50 = .ok (.getfield 96, 3) := by decide +kernel
theorem dX8_level_53 : decode cX8_level 53 = .ok (.iconst 1, 1) := by decide +kernel
theorem dX8_level_54 : decode cX8_level 54 = .ok (.isub, 1) := by decide +kernel
theorem dX8_level_55 : decode cX8_level 55 = .ok (.iaload, 1) := by decide +kernel
theorem dX8_level_56 : decode cX8_level 56 = .ok (.if_icmp .le 18, 3) := by decide +kernel
theorem dX8_level_59 : decode cX8_level 59 = .ok (.iload_n 2, 1) := by decide +kernel
theorem dX8_level_60 : decode cX8_level 60 = .ok (.aload_n 0, 1) := by decide +kernel
theorem dX8_level_61 : decode cX8_level 61 = .ok (.getfield 22, 3) := by decide +kernel
theorem dX8_level_64 : decode cX8_level 64 = .ok (.aload_n 0, 1) := by decide +kernel
theorem dX8_level_65 : decode cX8_level 65 = .ok (.getfield 96, 3) := by decide +kernel
theorem dX8_level_68 : decode cX8_level 68 = .ok (.iconst 1, 1) := by decide +kernel
theorem dX8_level_69 : decode cX8_level 69 = .ok (.isub, 1) := by decide +kernel
theorem dX8_level_70 : decode cX8_level 70 = .ok (.iaload, 1) := by decide +kernel
theorem dX8_level_71 : decode cX8_level 71 = .ok (.if_icmp .ge 5, 3) := by decide +kernel
theorem dX8_level_74 : decode cX8_level 74 = .ok (.iconst (-1), 1) := by decide +kernel
theorem dX8_level_75 : decode cX8_level 75 = .ok (.ireturn, 1) := by decide +kernel
theorem dX8_level_76 : decode cX8_level 76 = .ok (.aload_n 0, 1) := by decide +kernel
theorem dX8_level_77 : decode cX8_level 77 = .ok (.getfield 19, 3) := by decide +kernel
theorem dX8_level_80 : decode cX8_level 80 = .ok (.aload_n 0, 1) := by decide +kernel
theorem dX8_level_81 : decode cX8_level 81 = .ok (.getfield 96, 3) := by decide +kernel
theorem dX8_level_84 : decode cX8_level 84 = .ok (.iload_n 1, 1) := by decide +kernel
theorem dX8_level_85 : decode cX8_level 85 = .ok (.iastore, 1) := by decide +kernel
theorem dX8_level_86 : decode cX8_level 86 = .ok (.aload_n 0, 1) := by decide +kernel
theorem dX8_level_87 : decode cX8_level 87 = .ok (.getfield 22, 3) := by decide +kernel
theorem dX8_level_90 : decode cX8_level 90 = .ok (.aload_n 0, 1) := by decide +kernel
theorem dX8_level_91 : decode cX8_level 91 = .ok (.getfield 96, 3) := by decide +kernel
theorem dX8_level_94 : decode cX8_level 94 = .ok (.iload_n 2, 1) := by decide +kernel
theorem dX8_level_95 : decode cX8_level 95 = .ok (.iastore, 1) := by decide +kernel
theorem dX8_level_96 : decode cX8_level 96 = .ok (.aload_n 0, 1) := by decide +kernel
theorem dX8_level_97 : decode cX8_level 97 = .ok (.dup, 1) := by decide +kernel
theorem dX8_level_98 : decode cX8_level 98 = .ok (.getfield 96, 3) := by decide +kernel
theorem dX8_level_101 : decode cX8_level 101 = .ok (.iconst 1, 1) := by decide +kernel
theorem dX8_level_102 : decode cX8_level 102 = .ok (.iadd, 1) := by decide +kernel
theorem dX8_level_103 : decode cX8_level 103 = .ok (.putfield 96, 3) := by decide +kernel
theorem dX8_level_106 : decode cX8_level 106 = .ok (.aload_n 0, 1) := by decide +kernel
theorem dX8_level_107 : decode cX8_level 107 = .ok (.getfield 96, 3) := by decide +kernel
theorem dX8_level_110 : decode cX8_level 110 = .ok (.ireturn, 1) := by decide +kernel
theorem dX8_below_0 : decode cX8_below 0 = .ok (.aload_n 0, 1) := by decide +kernel
theorem dX8_below_1 : decode cX8_below 1 = .ok (.getfield 96, 3) := by decide +kernel
theorem dX8_below_4 : decode cX8_below 4 = .ok (.ifCond .eq 28, 3) := by decide +kernel
theorem dX8_below_7 : decode cX8_below 7 = .ok (.iload_n 1, 1) := by decide +kernel
theorem dX8_below_8 : decode cX8_below 8 = .ok (.aload_n 0, 1) := by decide +kernel
theorem dX8_below_9 : decode cX8_below 9 = .ok (.getfield 19, 3) := by decide +kernel
theorem dX8_below_12 : decode cX8_below 12 = .ok (.iconst 0, 1) := by decide +kernel
theorem dX8_below_13 : decode cX8_below 13 = .ok (.iaload, 1) := by decide +kernel
theorem dX8_below_14 : decode cX8_below 14 = .ok (.if_icmp .lt 18, 3) := by decide +kernel
theorem dX8_below_17 : decode cX8_below 17 = .ok (.iload_n 1, 1) := by decide +kernel
theorem dX8_below_18 : decode cX8_below 18 = .ok (.aload_n 0, 1) := by decide +kernel
theorem dX8_below_19 : decode cX8_below 19 = .ok (.getfield 19, 3) := by decide +kernel
theorem dX8_below_22 : decode cX8_below 22 = .ok (.aload_n 0, 1) := by decide +kernel
theorem dX8_below_23 : decode cX8_below 23 = .ok (.getfield 96, 3) := by decide +kernel
theorem dX8_below_26 : decode cX8_below 26 = .ok (.iconst 1, 1) := by decide +kernel
theorem dX8_below_27 : decode cX8_below 27 = .ok (.isub, 1) := by decide +kernel
theorem dX8_below_28 : decode cX8_below 28 = .ok (.iaload, 1) := by decide +kernel
theorem dX8_below_29 : decode cX8_below 29 = .ok (.if_icmp .le 5, 3) := by decide +kernel
theorem dX8_below_32 : decode cX8_below 32 = .ok (.iconst (-1), 1) := by decide +kernel
theorem dX8_below_33 : decode cX8_below 33 = .ok (.ireturn, 1) := by decide +kernel
theorem dX8_below_34 : decode cX8_below 34 = .ok (.iconst 0, 1) := by decide +kernel
theorem dX8_below_35 : decode cX8_below 35 = .ok (.istore_n 2, 1) := by decide +kernel
theorem dX8_below_36 : decode cX8_below 36 = .ok (.iload_n 2, 1) := by decide +kernel
theorem dX8_below_37 : decode cX8_below 37 = .ok (.iconst 1, 1) := by decide +kernel
theorem dX8_below_38 : decode cX8_below 38 = .ok (.iadd, 1) := by decide +kernel
theorem dX8_below_39 : decode cX8_below 39 = .ok (.aload_n 0, 1) := by decide +kernel
theorem dX8_below_40 : decode cX8_below 40 = .ok (.getfield 96, 3) := by decide +kernel
theorem dX8_below_43 : decode cX8_below 43 = .ok (.if_icmp .ge 21, 3) := by decide +kernel
theorem dX8_below_46 : decode cX8_below 46 = .ok (.aload_n 0, 1) := by decide +kernel
theorem dX8_below_47 : decode cX8_below 47 = .ok (.getfield 19, 3) := by decide +kernel
theorem dX8_below_50 : decode cX8_below 50 = .ok (.iload_n 2, 1) := by decide +kernel
theorem dX8_below_51 : decode cX8_below 51 = .ok (.iconst 1, 1) := by decide +kernel
theorem dX8_below_52 : decode cX8_below 52 = .ok (.iadd, 1) := by decide +kernel
theorem dX8_below_53 : decode cX8_below 53 = .ok (.iaload, 1) := by decide +kernel
theorem dX8_below_54 : decode cX8_below 54 = .ok (.iload_n 1, 1) := by decide +kernel
theorem dX8_below_55 : decode cX8_below 55 = .ok (.if_icmp .gt 9, 3) := by decide +kernel
theorem dX8_below_58 : decode cX8_below 58 = .ok (.iinc 2 1, 3) := by decide +kernel
theorem dX8_below_61 : decode cX8_below 61 = .ok (.goto (-25), 3) := by decide +kernel
theorem dX8_below_64 : decode cX8_below 64 = .ok (.iload_n 2, 1) := by decide +kernel
theorem dX8_below_65 : decode cX8_below 65 = .ok (.ireturn, 1) := by decide +kernel
theorem dX8_area_0 : decode cX8_area 0 = .ok (.aload_n 0, 1) := by decide +kernel
theorem dX8_area_1 : decode cX8_area 1 = .ok (.iload_n 1, 1) := by decide +kernel
theorem dX8_area_2 : decode cX8_area 2 = .ok (.invokevirtual 99, 3) := by decide +kernel
theorem dX8_area_5 : decode cX8_area 5 = .ok (.istore_n 2, 1) := by decide +kernel
theorem dX8_area_6 : decode cX8_area 6 = .ok (.iload_n 2, 1) := by decide +kernel
theorem dX8_area_7 : decode cX8_area 7 = .ok (.iconst (-1), 1) := by decide +kernel
theorem dX8_area_8 : decode cX8_area 8 = .ok (.if_icmp .ne 5, 3) := by decide +kernel
theorem dX8_area_11 : decode cX8_area 11 = .ok (.iconst (-1), 1) := by decide +kernel
theorem dX8_area_12 : decode cX8_area 12 = .ok (.ireturn, 1) := by decide +kernel
theorem dX8_area_13 : decode cX8_area 13 = .ok (.iload_n 1, 1) := by decide +kernel
theorem dX8_area_14 : decode cX8_area 14 = .ok (.aload_n 0, 1) := by decide +kernel
theorem dX8_area_15 : decode cX8_area 15 = .ok (.getfield 19, 3) := by decide +kernel
theorem dX8_area_18 : decode cX8_area 18 = .ok (.iload_n 2, 1) := by decide +kernel
theorem dX8_area_19 : decode cX8_area 19 = .ok (.iaload, 1) := by decide +kernel
theorem dX8_area_20 : decode cX8_area 20 = .ok (.isub, 1) := by decide +kernel
theorem dX8_area_21 : decode cX8_area 21 = .ok (.istore_n 3, 1) := by decide +kernel
theorem dX8_area_22 : decode cX8_area 22 = .ok (.iload_n 3, 1) := by decide +kernel
theorem dX8_area_23 : decode cX8_area 23 = .ok (.ifCond .ne 12, 3) := by decide +kernel
theorem dX8_area_26 : decode cX8_area 26 = .ok (.aload_n 0, 1) := by decide +kernel
theorem dX8_area_27 : decode cX8_area 27 = .ok (.getfield 22, 3) := by decide +kernel
theorem dX8_area_30 : decode cX8_area 30 = .ok (.iload_n 2, 1) := by decide +kernel
theorem dX8_area_31 : decode cX8_area 31 = .ok (.iaload, 1) := by decide +kernel
theorem dX8_area_32 : decode cX8_area 32 = .ok (.goto 47, 3) := by decide +kernel
theorem dX8_area_35 : decode cX8_area 35 = .ok (.aload_n 0, 1) := by decide +kernel
theorem dX8_area_36 : decode cX8_area 36 = .ok (.getfield 22, 3) := by decide +kernel
theorem dX8_area_39 : decode cX8_area 39 = .ok (.iload_n 2, 1) := by decide +kernel
theorem dX8_area_40 : decode cX8_area 40 = .ok (.iaload, 1) := by decide +kernel
theorem dX8_area_41 : decode cX8_area 41 = .ok (.aload_n 0, 1) := by decide +kernel
theorem dX8_area_42 : decode cX8_area 42 = .ok (.getfield 22, 3) := by decide +kernel
theorem dX8_area_45 : decode cX8_area 45 = .ok (.iload_n 2, 1) := by decide +kernel
theorem dX8_area_46 : decode cX8_area 46 = .ok (.iconst 1, 1) := by decide +kernel
theorem dX8_area_47 : decode cX8_area 47 = .ok (.iadd, 1) := by decide +kernel
theorem dX8_area_48 : decode cX8_area 48 = .ok (.iaload, 1) := by decide +kernel
theorem dX8_area_49 : decode cX8_area 49 = .ok (.aload_n 0, 1) := by decide +kernel
theorem dX8_area_50 : decode cX8_area 50 = .ok (.getfield 22, 3) := by decide +kernel
theorem dX8_area_53 : decode cX8_area 53 = .ok (.iload_n 2, 1) := by decide +kernel
theorem dX8_area_54 : decode cX8_area 54 = .ok (.iaload, 1) := by decide +kernel
theorem dX8_area_55 : decode cX8_area 55 = .ok (.isub, 1) := by decide +kernel
theorem dX8_area_56 : decode cX8_area 56 = .ok (.i2l, 1) := by decide +kernel
theorem dX8_area_57 : decode cX8_area 57 = .ok (.iload_n 3, 1) := by decide +kernel
theorem dX8_area_58 : decode cX8_area 58 = .ok (.i2l, 1) := by decide +kernel
theorem dX8_area_59 : decode cX8_area 59 = .ok (.lmul, 1) := by decide +kernel
theorem dX8_area_60 : decode cX8_area 60 = .ok (.aload_n 0, 1) := by decide +kernel
theorem dX8_area_61 : decode cX8_area 61 = .ok (.getfield 19, 3) := by decide +kernel
theorem dX8_area_64 : decode cX8_area 64 = .ok (.iload_n 2, 1) := by decide +kernel
theorem dX8_area_65 : decode cX8_area 65 = .ok (.iconst 1, 1) := by decide +kernel
theorem dX8_area_66 : decode cX8_area 66 = .ok (.iadd, 1) := by decide +kernel
theorem dX8_area_67 : decode cX8_area 67 = .ok (.iaload, 1) := by decide +kernel
theorem dX8_area_68 : decode cX8_area 68 = .ok (.aload_n 0, 1) := by decide +kernel
theorem dX8_area_69 : decode cX8_area 69 = .ok (.getfield 19, 3) := by decide +kernel
theorem dX8_area_72 : decode cX8_area 72 = .ok (.iload_n 2, 1) := by decide +kernel
theorem dX8_area_73 : decode cX8_area 73 = .ok (.iaload, 1) := by decide +kernel
theorem dX8_area_74 : decode cX8_area 74 = .ok (.isub, 1) := by decide +kernel
theorem dX8_area_75 : decode cX8_area 75 = .ok (.i2l, 1) := by decide +kernel
theorem dX8_area_76 : decode cX8_area 76 = .ok (.ldiv, 1) := by decide +kernel
theorem dX8_area_77 : decode cX8_area 77 = .ok (.l2i, 1) := by decide +kernel
theorem dX8_area_78 : decode cX8_area 78 = .ok (.iadd, 1) := by decide +kernel
theorem dX8_area_79 : decode cX8_area 79 = .ok (.ireturn, 1) := by decide +kernel
theorem dX8_content_0 : decode cX8_content 0 = .ok (.aload_n 0, 1) := by decide +kernel
theorem dX8_content_1 : decode cX8_content 1 = .ok (.iload_n 1, 1) := by decide +kernel
theorem dX8_content_2 : decode cX8_content 2 = .ok (.invokevirtual 99, 3) := by decide +kernel
theorem dX8_content_5 : decode cX8_content 5 = .ok (.istore_n 2, 1) := by decide +kernel
theorem dX8_content_6 : decode cX8_content 6 = .ok (.iload_n 2, 1) := by decide +kernel
theorem dX8_content_7 : decode cX8_content 7 = .ok (.iconst (-1), 1) := by decide +kernel
theorem dX8_content_8 : decode cX8_content 8 = .ok (.if_icmp .ne 7, 3) := by decide +kernel
theorem dX8_content_11 : decode cX8_content 11 = .ok (.ldc2_w 90, 3) := by decide +kernel
theorem dX8_content_14 : decode cX8_content 14 = .ok (.lreturn, 1) := by decide +kernel
theorem dX8_content_15 : decode cX8_content 15 = .ok (.lconst 0, 1) := by decide +kernel
theorem dX8_content_16 : decode cX8_content 16 = .ok (.lstore_n 3, 1) := by decide +kernel
theorem dX8_content_17 : decode cX8_content 17 = .ok (.iconst 0, 1) := by decide +kernel
theorem dX8_content_18 : decode cX8_content 18 = .ok (.istore 5, 2) := by decide +kernel
theorem dX8_content_20 : decode cX8_content 20 = .ok (.iload 5, 2) := by decide +kernel
theorem dX8_content_22 : decode cX8_content 22 = .ok (.iload_n 2, 1) := by decide +kernel
theorem dX8_content_23 : decode cX8_content 23 = .ok (.if_icmp .ge 53, 3) := by decide +kernel
theorem dX8_content_26 : decode cX8_content 26 = .ok (.lload_n 3, 1) := by decide +kernel
theorem dX8_content_27 : decode cX8_content 27 = .ok (.ldc2_w 103, 3) := by decide +kernel
theorem dX8_content_30 : decode cX8_content 30 = .ok (.aload_n 0, 1) := by decide +kernel
theorem dX8_content_31 : decode cX8_content 31 = .ok (.getfield 22, 3) := by decide +kernel
theorem dX8_content_34 : decode cX8_content 34 = .ok (.iload 5, 2) := by decide +kernel
theorem dX8_content_36 : decode cX8_content 36 = .ok (.iaload, 1) := by decide +kernel
theorem dX8_content_37 : decode cX8_content 37 = .ok (.aload_n 0, 1) := by decide +kernel
theorem dX8_content_38 : decode cX8_content 38 = .ok (.getfield 22, 3) := by decide +kernel
theorem dX8_content_41 : decode cX8_content 41 = .ok (.iload 5, 2) := by decide +kernel
theorem dX8_content_43 : decode cX8_content 43 = .ok (.iconst 1, 1) := by decide +kernel
theorem dX8_content_44 : decode cX8_content 44 = .ok (.iadd, 1) := by decide +kernel
theorem dX8_content_45 : decode cX8_content 45 = .ok (.iaload, 1) := by decide +kernel
theorem dX8_content_46 : decode cX8_content 46 = .ok (.iadd, 1) := by decide +kernel
theorem dX8_content_47 : decode cX8_content 47 = .ok (.i2l, 1) := by decide +kernel
theorem dX8_content_48 : decode cX8_content 48 = .ok (.lmul, 1) := by decide +kernel
theorem dX8_content_49 : decode cX8_content 49 = .ok (.aload_n 0, 1) := by decide +kernel
theorem dX8_content_50 : decode cX8_content 50 = .ok (.getfield 19, 3) := by decide +kernel
theorem dX8_content_53 : decode cX8_content 53 = .ok (.iload 5, 2) := by decide +kernel
theorem dX8_content_55 : decode cX8_content 55 = .ok (.iconst 1, 1) := by decide +kernel
theorem dX8_content_56 : decode cX8_content 56 = .ok (.iadd, 1) := by decide +kernel
theorem dX8_content_57 : decode cX8_content 57 = .ok (.iaload, 1) := by decide +kernel
theorem dX8_content_58 : decode cX8_content 58 = .ok (.aload_n 0, 1) := by decide +kernel
theorem dX8_content_59 : decode cX8_content 59 = .ok (.getfield 19, 3) := by decide +kernel
theorem dX8_content_62 : decode cX8_content 62 = .ok (.iload 5, 2) := by decide +kernel
theorem dX8_content_64 : decode cX8_content 64 = .ok (.iaload, 1) := by decide +kernel
theorem dX8_content_65 : decode cX8_content 65 = .ok (.isub, 1) := by decide +kernel
theorem dX8_content_66 : decode cX8_content 66 = .ok (.i2l, 1) := by decide +kernel
theorem dX8_content_67 : decode cX8_content 67 = .ok (.lmul, 1) := by decide +kernel
theorem dX8_content_68 : decode cX8_content 68 = .ok (.ladd, 1) := by decide +kernel
theorem dX8_content_69 : decode cX8_content 69 = .ok (.lstore_n 3, 1) := by decide +kernel
theorem dX8_content_70 : decode cX8_content 70 = .ok (.iinc 5 1, 3) := by decide +kernel
theorem dX8_content_73 : decode cX8_content 73 = .ok (.goto (-53), 3) := by decide +kernel
theorem dX8_content_76 : decode cX8_content 76 = .ok (.lload_n 3, 1) := by decide +kernel
theorem dX8_content_77 : decode cX8_content 77 = .ok (.ldc2_w 103, 3) := by decide +kernel
theorem dX8_content_80 : decode cX8_content 80 = .ok (.aload_n 0, 1) := by decide +kernel
theorem dX8_content_81 : decode cX8_content 81 = .ok (.getfield 22, 3) := by decide +kernel
theorem dX8_content_84 : decode cX8_content 84 = .ok (.iload_n 2, 1) := by decide +kernel
theorem dX8_content_85 : decode cX8_content 85 = .ok (.iaload, 1) := by decide +kernel
theorem dX8_content_86 : decode cX8_content 86 = .ok (.aload_n 0, 1) := by decide +kernel
theorem dX8_content_87 : decode cX8_content 87 = .ok (.iload_n 1, 1) := by decide +kernel
theorem dX8_content_88 : decode cX8_content 88 = .ok (.invokevirtual 105, 3) := by decide +kernel
theorem dX8_content_91 : decode cX8_content 91 = .ok (.iadd, 1) := by decide +kernel
theorem dX8_content_92 : decode cX8_content 92 = .ok (.i2l, 1) := by decide +kernel
theorem dX8_content_93 : decode cX8_content 93 = .ok (.lmul, 1) := by decide +kernel
theorem dX8_content_94 : decode cX8_content 94 = .ok (.iload_n 1, 1) := by decide +kernel
theorem dX8_content_95 : decode cX8_content 95 = .ok (.aload_n 0, 1) := by decide +kernel
theorem dX8_content_96 : decode cX8_content 96 = .ok (.getfield 19, 3) := by decide +kernel
theorem dX8_content_99 : decode cX8_content 99 = .ok (.iload_n 2, 1) := by decide +kernel
theorem dX8_content_100 : decode cX8_content 100 = .ok (.iaload, 1) := by decide +kernel
theorem dX8_content_101 : decode cX8_content 101 = .ok (.isub, 1) := by decide +kernel
theorem dX8_content_102 : decode cX8_content 102 = .ok (.i2l, 1) := by decide +kernel
theorem dX8_content_103 : decode cX8_content 103 = .ok (.lmul, 1) := by decide +kernel
theorem dX8_content_104 : decode cX8_content 104 = .ok (.ladd, 1) := by decide +kernel
theorem dX8_content_105 : decode cX8_content 105 = .ok (.lreturn, 1) := by decide +kernel
theorem dX8_fill_0 : decode cX8_fill 0 = .ok (.aload_n 0, 1) := by decide +kernel
theorem dX8_fill_1 : decode cX8_fill 1 = .ok (.getfield 96, 3) := by decide +kernel
theorem dX8_fill_4 : decode cX8_fill 4 = .ok (.ifCond .eq 29, 3) := by decide +kernel
theorem dX8_fill_7 : decode cX8_fill 7 = .ok (.lload_n 1, 1) := by decide +kernel
theorem dX8_fill_8 : decode cX8_fill 8 = .ok (.lconst 0, 1) := by decide +kernel
theorem dX8_fill_9 : decode cX8_fill 9 = .ok (.lcmp, 1) := by decide +kernel
theorem dX8_fill_10 : decode cX8_fill 10 = .ok (.ifCond .lt 23, 3) := by decide +kernel
theorem dX8_fill_13 : decode cX8_fill 13 = .ok (.lload_n 1, 1) := by decide +kernel
theorem dX8_fill_14 : decode cX8_fill 14 = .ok (.aload_n 0, 1) := by decide +kernel
theorem dX8_fill_15 : decode cX8_fill 15 = .ok (.aload_n 0, 1) := by decide +kernel
theorem dX8_fill_16 : decode cX8_fill 16 = .ok (.getfield 19, 3) := by decide +kernel
theorem dX8_fill_19 : decode cX8_fill 19 = .ok (.aload_n 0, 1) := by decide +kernel
theorem dX8_fill_20 : decode cX8_fill 20 = .ok (.getfield 96, 3) := by decide +kernel
theorem dX8_fill_23 : decode cX8_fill 23 = .ok (.iconst 1, 1) := by decide +kernel
theorem dX8_fill_24 : decode cX8_fill 24 = .ok (.isub, 1) := by decide +kernel
theorem dX8_fill_25 : decode cX8_fill 25 = .ok (.iaload, 1) := by decide +kernel
theorem dX8_fill_26 : decode cX8_fill 26 = .ok (.invokevirtual 108, 3) := by decide +kernel
theorem dX8_fill_29 : decode cX8_fill 29 = .ok (.lcmp, 1) := by decide +kernel
theorem dX8_fill_30 : decode cX8_fill 30 = .ok (.ifCond .le 6, 3) := by decide +kernel
theorem dX8_fill_33 : decode cX8_fill 33 = .ok (.ldc 112, 2) := by decide +kernel
theorem dX8_fill_35 : decode cX8_fill 35 = .ok (.ireturn, 1) := by decide +kernel
theorem dX8_fill_36 : decode cX8_fill 36 = .ok (.aload_n 0, 1) := by decide +kernel
theorem dX8_fill_37 : decode cX8_fill 37 = .ok (.getfield 19, 3) := by decide +kernel
theorem dX8_fill_40 : decode cX8_fill 40 = .ok (.iconst 0, 1) := by decide +kernel
theorem dX8_fill_41 : decode cX8_fill 41 = .ok (.iaload, 1) := by decide +kernel
theorem dX8_fill_42 : decode cX8_fill 42 = .ok (.istore_n 3, 1) := by decide +kernel
theorem dX8_fill_43 : decode cX8_fill 43 = .ok (.aload_n 0, 1) := by decide +kernel
theorem dX8_fill_44 : decode cX8_fill 44 = .ok (.getfield 19, 3) := by decide +kernel
theorem dX8_fill_47 : decode cX8_fill 47 = .ok (.aload_n 0, 1) := by decide +kernel
theorem dX8_fill_48 : decode cX8_fill 48 = .ok (.getfield 96, 3) := by decide +kernel
theorem dX8_fill_51 : decode cX8_fill 51 = .ok (.iconst 1, 1) := by decide +kernel
theorem dX8_fill_52 : decode cX8_fill 52 = .ok (.isub, 1) := by decide +kernel
theorem dX8_fill_53 : decode cX8_fill 53 = .ok (.iaload, 1) := by decide +kernel
theorem dX8_fill_54 : decode cX8_fill 54 = .ok (.istore 4, 2) := by decide +kernel
theorem dX8_fill_56 : decode cX8_fill 56 = .ok (.iload_n 3, 1) := by decide +kernel
theorem dX8_fill_57 : decode cX8_fill 57 = .ok (.iload 4, 2) := by decide +kernel
theorem dX8_fill_59 : decode cX8_fill 59 = .ok (.if_icmp .ge 41, 3) := by decide +kernel
theorem dX8_fill_62 : decode cX8_fill 62 = .ok (.iload_n 3, 1) := by decide +kernel
theorem dX8_fill_63 : decode cX8_fill 63 = .ok (.iload 4, 2) := by decide +kernel
theorem dX8_fill_65 : decode cX8_fill 65 = .ok (.iload_n 3, 1) := by decide +kernel
theorem dX8_fill_66 : decode cX8_fill 66 = .ok (.isub, 1) := by decide +kernel
theorem dX8_fill_67 : decode cX8_fill 67 = .ok (.iconst 1, 1) := by decide +kernel
theorem dX8_fill_68 : decode cX8_fill 68 = .ok (.iadd, 1) := by decide +kernel
theorem dX8_fill_69 : decode cX8_fill 69 = .ok (.iconst 2, 1) := by decide +kernel
theorem dX8_fill_70 : decode cX8_fill 70 = .ok (.idiv, 1) := by decide +kernel
theorem dX8_fill_71 : decode cX8_fill 71 = .ok (.iadd, 1) := by decide +kernel
theorem dX8_fill_72 : decode cX8_fill 72 = .ok (.istore 5, 2) := by decide +kernel
theorem dX8_fill_74 : decode cX8_fill 74 = .ok (.aload_n 0, 1) := by decide +kernel
theorem dX8_fill_75 : decode cX8_fill 75 = .ok (.iload 5, 2) := by decide +kernel
theorem dX8_fill_77 : decode cX8_fill 77 = .ok (.invokevirtual 108, 3) := by decide +kernel
theorem dX8_fill_80 : decode cX8_fill 80 = .ok (.lload_n 1, 1) := by decide +kernel
theorem dX8_fill_81 : decode cX8_fill 81 = .ok (.lcmp, 1) := by decide +kernel
theorem dX8_fill_82 : decode cX8_fill 82 = .ok (.ifCond .gt 9, 3) := by decide +kernel
theorem dX8_fill_85 : decode cX8_fill 85 = .ok (.iload 5, 2) := by decide +kernel
theorem dX8_fill_87 : decode cX8_fill 87 = .ok (.istore_n 3, 1) := by decide +kernel
theorem dX8_fill_88 : decode cX8_fill 88 = .ok (.goto 9, 3) := by decide +kernel
theorem dX8_fill_91 : decode cX8_fill 91 = .ok (.iload 5, 2) := by decide +kernel
theorem dX8_fill_93 : decode cX8_fill 93 = .ok (.iconst 1, 1) := by decide +kernel
theorem dX8_fill_94 : decode cX8_fill 94 = .ok (.isub, 1) := by decide +kernel
theorem dX8_fill_95 : decode cX8_fill 95 = .ok (.istore 4, 2) := by decide +kernel
theorem dX8_fill_97 : decode cX8_fill 97 = .ok (.goto (-41), 3) := by decide +kernel
theorem dX8_fill_100 : decode cX8_fill 100 = .ok (.iload_n 3, 1) := by decide +kernel
theorem dX8_fill_101 : decode cX8_fill 101 = .ok (.ireturn, 1) := by decide +kernel
theorem dX8_culvert_0 : decode cX8_culvert 0 = .ok (.iload_n 1, 1) := by decide +kernel
theorem dX8_culvert_1 : decode cX8_culvert 1 = .ok (.i2l, 1) := by decide +kernel
theorem dX8_culvert_2 : decode cX8_culvert 2 = .ok (.lconst 1, 1) := by decide +kernel
theorem dX8_culvert_3 : decode cX8_culvert 3 = .ok (.ldc2_w 68, 3) := by decide +kernel
theorem dX8_culvert_6 : decode cX8_culvert 6 = .ok (.invokestatic 64, 3) := by decide +kernel
theorem dX8_culvert_9 : decode cX8_culvert 9 = .ok (.ifCond .eq 49, 3) := by decide +kernel
theorem dX8_culvert_12 : decode cX8_culvert 12 = .ok (.iload_n 2, 1) := by decide +kernel
theorem dX8_culvert_13 : decode cX8_culvert 13 = .ok (.i2l, 1) := by decide +kernel
theorem dX8_culvert_14 : decode cX8_culvert 14 = .ok (.lconst 1, 1) := by decide +kernel
theorem dX8_culvert_15 : decode cX8_culvert 15 = .ok (.ldc2_w 68, 3) := by decide +kernel
theorem dX8_culvert_18 : decode cX8_culvert 18 = .ok (.invokestatic 64, 3) := by decide +kernel
theorem dX8_culvert_21 : decode cX8_culvert 21 = .ok (.ifCond .eq 37, 3) := by decide +kernel
theorem dX8_culvert_24 : decode cX8_culvert 24 = .ok (.iload_n 3, 1) := by decide +kernel
theorem dX8_culvert_25 : decode cX8_culvert 25 = .ok (.i2l, 1) := by decide +kernel
theorem dX8_culvert_26 : decode cX8_culvert 26 = .ok (.lconst 1, 1) := by decide +kernel
theorem dX8_culvert_27 : decode cX8_culvert 27 = .ok (.ldc2_w 70, 3) := by decide +kernel
theorem dX8_culvert_30 : decode cX8_culvert 30 = .ok (.invokestatic 64, 3) := by decide +kernel
theorem dX8_culvert_33 : decode cX8_culvert 33 = .ok (.ifCond .eq 25, 3) := by decide +kernel
theorem dX8_culvert_36 : decode cX8_culvert 36 = .ok (.iload 4, 2) := by decide +kernel
theorem dX8_culvert_38 : decode cX8_culvert 38 = .ok (.i2l, 1) := by decide +kernel
theorem dX8_culvert_39 : decode cX8_culvert 39 = .ok (.lconst 0, 1) := by decide +kernel
theorem dX8_culvert_40 : decode cX8_culvert 40 = .ok (.ldc2_w 68, 3) := by decide +kernel
theorem dX8_culvert_43 : decode cX8_culvert 43 = .ok (.invokestatic 64, 3) := by decide +kernel
theorem dX8_culvert_46 : decode cX8_culvert 46 = .ok (.ifCond .eq 12, 3) := by decide +kernel
theorem dX8_culvert_49 : decode cX8_culvert 49 = .ok (.aload_n 0, 1) := by decide +kernel
theorem dX8_culvert_50 : decode cX8_culvert 50 = .ok (.getfield 113, 3) := by decide +kernel
theorem dX8_culvert_53 : decode cX8_culvert 53 = .ok (.bipush 8, 2) := by decide +kernel
theorem dX8_culvert_55 : decode cX8_culvert 55 = .ok (.if_icmp .ne 5, 3) := by decide +kernel
theorem dX8_culvert_58 : decode cX8_culvert 58 = .ok (.iconst (-1), 1) := by decide +kernel
theorem dX8_culvert_59 : decode cX8_culvert 59 = .ok (.ireturn, 1) := by decide +kernel
theorem dX8_culvert_60 : decode cX8_culvert 60 = .ok (.aload_n 0, 1) := by decide +kernel
theorem dX8_culvert_61 : decode cX8_culvert 61 = .ok (.getfield 25, 3) := by decide +kernel
theorem dX8_culvert_64 : decode cX8_culvert 64 = .ok (.iconst 4, 1) := by decide +kernel
theorem dX8_culvert_65 : decode cX8_culvert 65 = .ok (.aload_n 0, 1) := by decide +kernel
theorem dX8_culvert_66 : decode cX8_culvert 66 = .ok (.getfield 113, 3) := by decide +kernel
theorem dX8_culvert_69 : decode cX8_culvert 69 = .ok (.imul, 1) := by decide +kernel
theorem dX8_culvert_70 : decode cX8_culvert 70 = .ok (.iload_n 1, 1) := by decide +kernel
theorem dX8_culvert_71 : decode cX8_culvert 71 = .ok (.iastore, 1) := by decide +kernel
theorem dX8_culvert_72 : decode cX8_culvert 72 = .ok (.aload_n 0, 1) := by decide +kernel
theorem dX8_culvert_73 : decode cX8_culvert 73 = .ok (.getfield 25, 3) := by decide +kernel
theorem dX8_culvert_76 : decode cX8_culvert 76 = .ok (.iconst 4, 1) := by decide +kernel
theorem dX8_culvert_77 : decode cX8_culvert 77 = .ok (.aload_n 0, 1) := by decide +kernel
theorem dX8_culvert_78 : decode cX8_culvert 78 = .ok (.getfield 113, 3) := by decide +kernel
theorem dX8_culvert_81 : decode cX8_culvert 81 = .ok (.imul, 1) := by decide +kernel
theorem dX8_culvert_82 : decode cX8_culvert 82 = .ok (.iconst 1, 1) := by decide +kernel
theorem dX8_culvert_83 : decode cX8_culvert 83 = .ok (.iadd, 1) := by decide +kernel
theorem dX8_culvert_84 : decode cX8_culvert 84 = .ok (.iload_n 2, 1) := by decide +kernel
theorem dX8_culvert_85 : decode cX8_culvert 85 = .ok (.iastore, 1) := by decide +kernel
theorem dX8_culvert_86 : decode cX8_culvert 86 = .ok (.aload_n 0, 1) := by decide +kernel
theorem dX8_culvert_87 : decode cX8_culvert 87 = .ok (.getfield 25, 3) := by decide +kernel
theorem dX8_culvert_90 : decode cX8_culvert 90 = .ok (.iconst 4, 1) := by decide +kernel
theorem dX8_culvert_91 : decode cX8_culvert 91 = .ok (.aload_n 0, 1) := by decide +kernel
theorem dX8_culvert_92 : decode cX8_culvert 92 = .ok (.getfield 113, 3) := by decide +kernel
theorem dX8_culvert_95 : decode cX8_culvert 95 = .ok (.imul, 1) := by decide +kernel
theorem dX8_culvert_96 : decode cX8_culvert 96 = .ok (.iconst 2, 1) := by decide +kernel
theorem dX8_culvert_97 : decode cX8_culvert 97 = .ok (.iadd, 1) := by decide +kernel
theorem dX8_culvert_98 : decode cX8_culvert 98 = .ok (.iload_n 3, 1) := by decide +kernel
theorem dX8_culvert_99 : decode cX8_culvert 99 = .ok (.iastore, 1) := by decide +kernel
theorem dX8_culvert_100 : decode cX8_culvert 100 = .ok (.aload_n 0, 1) := by decide +kernel
theorem dX8_culvert_101 : decode cX8_culvert 101 = .ok (.getfield 25, 3) := by decide +kernel
theorem dX8_culvert_104 : decode cX8_culvert 104 = .ok (.iconst 4, 1) := by decide +kernel
theorem dX8_culvert_105 : decode cX8_culvert 105 = .ok (.aload_n 0, 1) := by decide +kernel
theorem dX8_culvert_106 : decode cX8_culvert 106 = .ok (.getfield 113, 3) := by decide +kernel
theorem dX8_culvert_109 : decode cX8_culvert 109 = .ok (.imul, 1) := by decide +kernel
theorem dX8_culvert_110 : decode cX8_culvert 110 = .ok (.iconst 3, 1) := by decide +kernel
theorem dX8_culvert_111 : decode cX8_culvert 111 = .ok (.iadd, 1) := by decide +kernel
theorem dX8_culvert_112 : decode cX8_culvert 112 = .ok (.iload 4, 2) := by decide +kernel
theorem dX8_culvert_114 : decode cX8_culvert 114 = .ok (.iastore, 1) := by decide +kernel
theorem dX8_culvert_115 : decode cX8_culvert 115 = .ok (.aload_n 0, 1) := by decide +kernel
theorem dX8_culvert_116 : decode cX8_culvert 116 = .ok (.dup, 1) := by decide +kernel
theorem dX8_culvert_117 : decode cX8_culvert 117 = .ok (.getfield 113, 3) := by decide +kernel
theorem dX8_culvert_120 : decode cX8_culvert 120 = .ok (.iconst 1, 1) := by decide +kernel
theorem dX8_culvert_121 : decode cX8_culvert 121 = .ok (.iadd, 1) := by decide +kernel
theorem dX8_culvert_122 : decode cX8_culvert 122 = .ok (.putfield 113, 3) := by decide +kernel
theorem dX8_culvert_125 : decode cX8_culvert 125 = .ok (.aload_n 0, 1) := by decide +kernel
theorem dX8_culvert_126 : decode cX8_culvert 126 = .ok (.getfield 113, 3) := by decide +kernel
theorem dX8_culvert_129 : decode cX8_culvert 129 = .ok (.iconst 1, 1) := by decide +kernel
theorem dX8_culvert_130 : decode cX8_culvert 130 = .ok (.isub, 1) := by decide +kernel
theorem dX8_culvert_131 : decode cX8_culvert 131 = .ok (.ireturn, 1) := by decide +kernel
theorem dX8_unit_0 : decode cX8_unit 0 = .ok (.iload_n 1, 1) := by decide +kernel
theorem dX8_unit_1 : decode cX8_unit 1 = .ok (.i2l, 1) := by decide +kernel
theorem dX8_unit_2 : decode cX8_unit 2 = .ok (.ldc2_w 116, 3) := by decide +kernel
theorem dX8_unit_5 : decode cX8_unit 5 = .ok (.ldc2_w 118, 3) := by decide +kernel
theorem dX8_unit_8 : decode cX8_unit 8 = .ok (.invokestatic 64, 3) := by decide +kernel
theorem dX8_unit_11 : decode cX8_unit 11 = .ok (.ifCond .eq 13, 3) := by decide +kernel
theorem dX8_unit_14 : decode cX8_unit 14 = .ok (.aload_n 0, 1) := by decide +kernel
theorem dX8_unit_15 : decode cX8_unit 15 = .ok (.getfield 120, 3) := by decide +kernel
theorem dX8_unit_18 : decode cX8_unit 18 = .ok (.sipush 300, 3) := by decide +kernel
theorem dX8_unit_21 : decode cX8_unit 21 = .ok (.if_icmp .ne 5, 3) := by decide +kernel
theorem dX8_unit_24 : decode cX8_unit 24 = .ok (.iconst 0, 1) := by decide +kernel
theorem dX8_unit_25 : decode cX8_unit 25 = .ok (.ireturn, 1) := by decide +kernel
theorem dX8_unit_26 : decode cX8_unit 26 = .ok (.aload_n 0, 1) := by decide +kernel
theorem dX8_unit_27 : decode cX8_unit 27 = .ok (.getfield 28, 3) := by decide +kernel
theorem dX8_unit_30 : decode cX8_unit 30 = .ok (.aload_n 0, 1) := by decide +kernel
theorem dX8_unit_31 : decode cX8_unit 31 = .ok (.getfield 120, 3) := by decide +kernel
theorem dX8_unit_34 : decode cX8_unit 34 = .ok (.iload_n 1, 1) := by decide +kernel
theorem dX8_unit_35 : decode cX8_unit 35 = .ok (.iastore, 1) := by decide +kernel
theorem dX8_unit_36 : decode cX8_unit 36 = .ok (.aload_n 0, 1) := by decide +kernel
theorem dX8_unit_37 : decode cX8_unit 37 = .ok (.dup, 1) := by decide +kernel
theorem dX8_unit_38 : decode cX8_unit 38 = .ok (.getfield 120, 3) := by decide +kernel
theorem dX8_unit_41 : decode cX8_unit 41 = .ok (.iconst 1, 1) := by decide +kernel
theorem dX8_unit_42 : decode cX8_unit 42 = .ok (.iadd, 1) := by decide +kernel
theorem dX8_unit_43 : decode cX8_unit 43 = .ok (.putfield 120, 3) := by decide +kernel
theorem dX8_unit_46 : decode cX8_unit 46 = .ok (.iconst 1, 1) := by decide +kernel
theorem dX8_unit_47 : decode cX8_unit 47 = .ok (.ireturn, 1) := by decide +kernel
theorem dX8_look_0 : decode cX8_look 0 = .ok (.aload_n 0, 1) := by decide +kernel
theorem dX8_look_1 : decode cX8_look 1 = .ok (.getfield 123, 3) := by decide +kernel
theorem dX8_look_4 : decode cX8_look 4 = .ok (.aload_n 0, 1) := by decide +kernel
theorem dX8_look_5 : decode cX8_look 5 = .ok (.getfield 120, 3) := by decide +kernel
theorem dX8_look_8 : decode cX8_look 8 = .ok (.if_icmp .ge 30, 3) := by decide +kernel
theorem dX8_look_11 : decode cX8_look 11 = .ok (.aload_n 0, 1) := by decide +kernel
theorem dX8_look_12 : decode cX8_look 12 = .ok (.getfield 28, 3) := by decide +kernel
theorem dX8_look_15 : decode cX8_look 15 = .ok (.aload_n 0, 1) := by decide +kernel
theorem dX8_look_16 : decode cX8_look 16 = .ok (.getfield 123, 3) := by decide +kernel
theorem dX8_look_19 : decode cX8_look 19 = .ok (.iaload, 1) := by decide +kernel
theorem dX8_look_20 : decode cX8_look 20 = .ok (.bipush 32, 2) := by decide +kernel
theorem dX8_look_22 : decode cX8_look 22 = .ok (.if_icmp .ne 16, 3) := by decide +kernel
theorem dX8_look_25 : decode cX8_look 25 = .ok (.aload_n 0, 1) := by decide +kernel
theorem dX8_look_26 : decode cX8_look 26 = .ok (.dup, 1) := by decide +kernel
theorem dX8_look_27 : decode cX8_look 27 = .ok (.getfield 123, 3) := by decide +kernel
theorem dX8_look_30 : decode cX8_look 30 = .ok (.iconst 1, 1) := by decide +kernel
theorem dX8_look_31 : decode cX8_look 31 = .ok (.iadd, 1) := by decide +kernel
theorem dX8_look_32 : decode cX8_look 32 = .ok (.putfield 123, 3) := by decide +kernel
theorem dX8_look_35 : decode cX8_look 35 = .ok (.goto (-35), 3) := by decide +kernel
theorem dX8_look_38 : decode cX8_look 38 = .ok (.aload_n 0, 1) := by decide +kernel
theorem dX8_look_39 : decode cX8_look 39 = .ok (.getfield 123, 3) := by decide +kernel
theorem dX8_look_42 : decode cX8_look 42 = .ok (.aload_n 0, 1) := by decide +kernel
theorem dX8_look_43 : decode cX8_look 43 = .ok (.getfield 120, 3) := by decide +kernel
theorem dX8_look_46 : decode cX8_look 46 = .ok (.if_icmp .ge 15, 3) := by decide +kernel
theorem dX8_look_49 : decode cX8_look 49 = .ok (.aload_n 0, 1) := by decide +kernel
theorem dX8_look_50 : decode cX8_look 50 = .ok (.getfield 28, 3) := by decide +kernel
theorem dX8_look_53 : decode cX8_look 53 = .ok (.aload_n 0, 1) := by decide +kernel
theorem dX8_look_54 : decode cX8_look 54 = .ok (.getfield 123, 3) := by decide +kernel
theorem dX8_look_57 : decode cX8_look 57 = .ok (.iaload, 1) := by decide +kernel
theorem dX8_look_58 : decode cX8_look 58 = .ok (.goto 4, 3) := by decide +kernel
theorem dX8_look_61 : decode cX8_look 61 = .ok (.iconst 0, 1) := by decide +kernel
theorem dX8_look_62 : decode cX8_look 62 = .ok (.ireturn, 1) := by decide +kernel
theorem dX8_isLetter_0 : decode cX8_isLetter 0 = .ok (.iload_n 0, 1) := by decide +kernel
theorem dX8_isLetter_1 : decode cX8_isLetter 1 = .ok (.bipush 104, 2) := by decide +kernel
theorem dX8_isLetter_3 : decode cX8_isLetter 3 = .ok (.if_icmp .eq 39, 3) := by decide +kernel
theorem dX8_isLetter_6 : decode cX8_isLetter 6 = .ok (.iload_n 0, 1) := by decide +kernel
theorem dX8_isLetter_7 : decode cX8_isLetter 7 = .ok (.bipush 116, 2) := by decide +kernel
theorem dX8_isLetter_9 : decode cX8_isLetter 9 = .ok (.if_icmp .eq 33, 3) := by decide +kernel
theorem dX8_isLetter_12 : decode cX8_isLetter 12 = .ok (.iload_n 0, 1) := by decide +kernel
theorem dX8_isLetter_13 : decode cX8_isLetter 13 = .ok (.bipush 119, 2) := by decide +kernel
theorem dX8_isLetter_15 : decode cX8_isLetter 15 = .ok (.if_icmp .eq 27, 3) := by decide +kernel
theorem dX8_isLetter_18 : decode cX8_isLetter 18 = .ok (.iload_n 0, 1) := by decide +kernel
theorem dX8_isLetter_19 : decode cX8_isLetter 19 = .ok (.bipush 100, 2) := by decide +kernel
theorem dX8_isLetter_21 : decode cX8_isLetter 21 = .ok (.if_icmp .eq 21, 3) := by decide +kernel
theorem dX8_isLetter_24 : decode cX8_isLetter 24 = .ok (.iload_n 0, 1) := by decide +kernel
theorem dX8_isLetter_25 : decode cX8_isLetter 25 = .ok (.bipush 108, 2) := by decide +kernel
theorem dX8_isLetter_27 : decode cX8_isLetter 27 = .ok (.if_icmp .eq 15, 3) := by decide +kernel
theorem dX8_isLetter_30 : decode cX8_isLetter 30 = .ok (.iload_n 0, 1) := by decide +kernel
theorem dX8_isLetter_31 : decode cX8_isLetter 31 = .ok (.bipush 102, 2) := by decide +kernel
theorem dX8_isLetter_33 : decode cX8_isLetter 33 = .ok (.if_icmp .eq 9, 3) := by decide +kernel
theorem dX8_isLetter_36 : decode cX8_isLetter 36 = .ok (.iload_n 0, 1) := by decide +kernel
theorem dX8_isLetter_37 : decode cX8_isLetter 37 = .ok (.bipush 113, 2) := by decide +kernel
theorem dX8_isLetter_39 : decode cX8_isLetter 39 = .ok (.if_icmp .ne 7, 3) := by decide +kernel
theorem dX8_isLetter_42 : decode cX8_isLetter 42 = .ok (.iconst 1, 1) := by decide +kernel
theorem dX8_isLetter_43 : decode cX8_isLetter 43 = .ok (.goto 4, 3) := by decide +kernel
theorem dX8_isLetter_46 : decode cX8_isLetter 46 = .ok (.iconst 0, 1) := by decide +kernel
theorem dX8_isLetter_47 : decode cX8_isLetter 47 = .ok (.ireturn, 1) := by decide +kernel
theorem dX8_readTerm_0 : decode cX8_readTerm 0 = .ok (.aload_n 0, 1) := by decide +kernel
theorem dX8_readTerm_1 : decode cX8_readTerm 1 = .ok (.invokevirtual 126, 3) := by decide +kernel
theorem dX8_readTerm_4 : decode cX8_readTerm 4 = .ok (.istore_n 3, 1) := by decide +kernel
theorem dX8_readTerm_5 : decode cX8_readTerm 5 = .ok (.aload_n 0, 1) := by decide +kernel
theorem dX8_readTerm_6 : decode cX8_readTerm 6 = .ok (.getfield 123, 3) := by decide +kernel
theorem dX8_readTerm_9 : decode cX8_readTerm 9 = .ok (.istore 4, 2) := by decide +kernel
theorem dX8_readTerm_11 : decode cX8_readTerm 11 = .ok (.iconst 0, 1) := by decide +kernel
theorem dX8_readTerm_12 : decode cX8_readTerm 12 = .ok (.istore 5, 2) := by decide +kernel
theorem dX8_readTerm_14 : decode cX8_readTerm 14 = .ok (.iconst 0, 1) := by decide +kernel
theorem dX8_readTerm_15 : decode cX8_readTerm 15 = .ok (.istore 6, 2) := by decide +kernel
theorem dX8_readTerm_17 : decode cX8_readTerm 17 = .ok (.aload_n 0, 1) := by decide +kernel
theorem dX8_readTerm_18 : decode cX8_readTerm 18 = .ok (.getfield 123, 3) := by decide +kernel
theorem dX8_readTerm_21 : decode cX8_readTerm 21 = .ok (.aload_n 0, 1) := by decide +kernel
theorem dX8_readTerm_22 : decode cX8_readTerm 22 = .ok (.getfield 120, 3) := by decide +kernel
theorem dX8_readTerm_25 : decode cX8_readTerm 25 = .ok (.if_icmp .ge 79, 3) := by decide +kernel
theorem dX8_readTerm_28 : decode cX8_readTerm 28 = .ok (.aload_n 0, 1) := by decide +kernel
theorem dX8_readTerm_29 : decode cX8_readTerm 29 = .ok (.getfield 28, 3) := by decide +kernel
theorem dX8_readTerm_32 : decode cX8_readTerm 32 = .ok (.aload_n 0, 1) := by decide +kernel
theorem dX8_readTerm_33 : decode cX8_readTerm 33 = .ok (.getfield 123, 3) := by decide +kernel
theorem dX8_readTerm_36 : decode cX8_readTerm 36 = .ok (.iaload, 1) := by decide +kernel
theorem dX8_readTerm_37 : decode cX8_readTerm 37 = .ok (.bipush 48, 2) := by decide +kernel
theorem dX8_readTerm_39 : decode cX8_readTerm 39 = .ok (.if_icmp .lt 65, 3) := by decide +kernel
theorem dX8_readTerm_42 : decode cX8_readTerm 42 = .ok (.aload_n 0, 1) := by decide +kernel
theorem dX8_readTerm_43 : decode cX8_readTerm 43 = .ok (.getfield 28, 3) := by decide +kernel
theorem dX8_readTerm_46 : decode cX8_readTerm 46 = .ok (.aload_n 0, 1) := by decide +kernel
theorem dX8_readTerm_47 : decode cX8_readTerm 47 = .ok (.getfield 123, 3) := by decide +kernel
theorem dX8_readTerm_50 : decode cX8_readTerm 50 = .ok (.iaload, 1) := by decide +kernel
theorem dX8_readTerm_51 : decode cX8_readTerm 51 = .ok (.bipush 57, 2) := by decide +kernel
theorem dX8_readTerm_53 : decode cX8_readTerm 53 = .ok (.if_icmp .gt 51, 3) := by decide +kernel
theorem dX8_readTerm_56 : decode cX8_readTerm 56 = .ok (.iload 5, 2) := by decide +kernel
theorem dX8_readTerm_58 : decode cX8_readTerm 58 = .ok (.bipush 6, 2) := by decide +kernel
theorem dX8_readTerm_60 : decode cX8_readTerm 60 = .ok (.if_icmp .ge 24, 3) := by decide +kernel
theorem dX8_readTerm_63 : decode cX8_readTerm 63 = .ok (.bipush 10, 2) := by decide +kernel
theorem dX8_readTerm_65 : decode cX8_readTerm 65 = .ok (.iload 6, 2) := by decide +kernel
theorem dX8_readTerm_67 : decode cX8_readTerm 67 = .ok (.imul, 1) := by decide +kernel
theorem dX8_readTerm_68 : decode cX8_readTerm 68 = .ok (.aload_n 0, 1) := by decide +kernel
theorem dX8_readTerm_69 : decode cX8_readTerm 69 = .ok (.getfield 28, 3) := by decide +kernel
theorem dX8_readTerm_72 : decode cX8_readTerm 72 = .ok (.aload_n 0, 1) := by decide +kernel
theorem dX8_readTerm_73 : decode cX8_readTerm 73 = .ok (.getfield 123, 3) := by decide +kernel
theorem dX8_readTerm_76 : decode cX8_readTerm 76 = .ok (.iaload, 1) := by decide +kernel
theorem dX8_readTerm_77 : decode cX8_readTerm 77 = .ok (.iadd, 1) := by decide +kernel
theorem dX8_readTerm_78 : decode cX8_readTerm 78 = .ok (.bipush 48, 2) := by decide +kernel
theorem dX8_readTerm_80 : decode cX8_readTerm 80 = .ok (.isub, 1) := by decide +kernel
theorem dX8_readTerm_81 : decode cX8_readTerm 81 = .ok (.goto 5, 3) := by decide +kernel
theorem dX8_readTerm_84 : decode cX8_readTerm 84 = .ok (.iload 6, 2) := by decide +kernel
theorem dX8_readTerm_86 : decode cX8_readTerm 86 = .ok (.istore 6, 2) := by decide +kernel
theorem dX8_readTerm_88 : decode cX8_readTerm 88 = .ok (.iinc 5 1, 3) := by decide +kernel
theorem dX8_readTerm_91 : decode cX8_readTerm 91 = .ok (.aload_n 0, 1) := by decide +kernel
theorem dX8_readTerm_92 : decode cX8_readTerm 92 = .ok (.dup, 1) := by decide +kernel
theorem dX8_readTerm_93 : decode cX8_readTerm 93 = .ok (.getfield 123, 3) := by decide +kernel
theorem dX8_readTerm_96 : decode cX8_readTerm 96 = .ok (.iconst 1, 1) := by decide +kernel
theorem dX8_readTerm_97 : decode cX8_readTerm 97 = .ok (.iadd, 1) := by decide +kernel
theorem dX8_readTerm_98 : decode cX8_readTerm 98 = .ok (.putfield 123, 3) := by decide +kernel
theorem dX8_readTerm_101 : decode cX8_readTerm 101 = .ok (.goto (-84), 3) := by decide +kernel
theorem dX8_readTerm_104 : decode cX8_readTerm 104 = .ok (.iload 5, 2) := by decide +kernel
theorem dX8_readTerm_106 : decode cX8_readTerm 106 = .ok (.ifCond .ne 6, 3) := by decide +kernel
theorem dX8_readTerm_109 : decode cX8_readTerm 109 = .ok (.iconst 1, 1) := by decide +kernel
theorem dX8_readTerm_110 : decode cX8_readTerm 110 = .ok (.istore 6, 2) := by decide +kernel
theorem dX8_readTerm_112 : decode cX8_readTerm 112 = .ok (.iload 5, 2) := by decide +kernel
theorem dX8_readTerm_114 : decode cX8_readTerm 114 = .ok (.iconst 5, 1) := by decide +kernel
theorem dX8_readTerm_115 : decode cX8_readTerm 115 = .ok (.if_icmp .gt 21, 3) := by decide +kernel
theorem dX8_readTerm_118 : decode cX8_readTerm 118 = .ok (.iload 5, 2) := by decide +kernel
theorem dX8_readTerm_120 : decode cX8_readTerm 120 = .ok (.iconst 1, 1) := by decide +kernel
theorem dX8_readTerm_121 : decode cX8_readTerm 121 = .ok (.if_icmp .le 27, 3) := by decide +kernel
theorem dX8_readTerm_124 : decode cX8_readTerm 124 = .ok (.aload_n 0, 1) := by decide +kernel
theorem dX8_readTerm_125 : decode cX8_readTerm 125 = .ok (.getfield 28, 3) := by decide +kernel
theorem dX8_readTerm_128 : decode cX8_readTerm 128 = .ok (.iload 4, 2) := by decide +kernel
theorem dX8_readTerm_130 : decode cX8_readTerm 130 = .ok (.iaload, 1) := by decide +kernel
theorem dX8_readTerm_131 : decode cX8_readTerm 131 = .ok (.bipush 48, 2) := by decide +kernel
theorem dX8_readTerm_133 : decode cX8_readTerm 133 = .ok (.if_icmp .ne 15, 3) := by decide +kernel
theorem dX8_readTerm_136 : decode cX8_readTerm 136 = .ok (.aload_n 0, 1) := by decide +kernel
theorem dX8_readTerm_137 : decode cX8_readTerm 137 = .ok (.iload 4, 2) := by decide +kernel
theorem dX8_readTerm_139 : decode cX8_readTerm 139 = .ok (.putfield 123, 3) := by decide +kernel
theorem dX8_readTerm_142 : decode cX8_readTerm 142 = .ok (.aload_n 0, 1) := by decide +kernel
theorem dX8_readTerm_143 : decode cX8_readTerm 143 = .ok (.iconst 1, 1) := by decide +kernel
theorem dX8_readTerm_144 : decode cX8_readTerm 144 = .ok (.putfield 130, 3) := by decide +kernel
theorem dX8_readTerm_147 : decode cX8_readTerm 147 = .ok (.return_, 1) := by decide +kernel
theorem dX8_readTerm_148 : decode cX8_readTerm 148 = .ok (.aload_n 0, 1) := by decide +kernel
theorem dX8_readTerm_149 : decode cX8_readTerm 149 = .ok (.invokevirtual 126, 3) := by decide +kernel
theorem dX8_readTerm_152 : decode cX8_readTerm 152 = .ok (.istore 7, 2) := by decide +kernel
theorem dX8_readTerm_154 : decode cX8_readTerm 154 = .ok (.aload_n 0, 1) := by decide +kernel
theorem dX8_readTerm_155 : decode cX8_readTerm 155 = .ok (.getfield 43, 3) := by decide +kernel
theorem dX8_readTerm_158 : decode cX8_readTerm 158 = .ok (.iload_n 1, 1) := by decide +kernel
theorem dX8_readTerm_159 : decode cX8_readTerm 159 = .ok (.iconst 0, 1) := by decide +kernel
theorem dX8_readTerm_160 : decode cX8_readTerm 160 = .ok (.iastore, 1) := by decide +kernel
theorem dX8_readTerm_161 : decode cX8_readTerm 161 = .ok (.iload 7, 2) := by decide +kernel
theorem dX8_readTerm_163 : decode cX8_readTerm 163 = .ok (.invokestatic 134, 3) := by decide +kernel
theorem dX8_readTerm_166 : decode cX8_readTerm 166 = .ok (.ifCond .eq 41, 3) := by decide +kernel
theorem dX8_readTerm_169 : decode cX8_readTerm 169 = .ok (.iload 6, 2) := by decide +kernel
theorem dX8_readTerm_171 : decode cX8_readTerm 171 = .ok (.ifCond .ne 15, 3) := by decide +kernel
theorem dX8_readTerm_174 : decode cX8_readTerm 174 = .ok (.aload_n 0, 1) := by decide +kernel
theorem dX8_readTerm_175 : decode cX8_readTerm 175 = .ok (.iload 4, 2) := by decide +kernel
theorem dX8_readTerm_177 : decode cX8_readTerm 177 = .ok (.putfield 123, 3) := by decide +kernel
theorem dX8_readTerm_180 : decode cX8_readTerm 180 = .ok (.aload_n 0, 1) := by decide +kernel
theorem dX8_readTerm_181 : decode cX8_readTerm 181 = .ok (.iconst 1, 1) := by decide +kernel
theorem dX8_readTerm_182 : decode cX8_readTerm 182 = .ok (.putfield 130, 3) := by decide +kernel
theorem dX8_readTerm_185 : decode cX8_readTerm 185 = .ok (.return_, 1) := by decide +kernel
theorem dX8_readTerm_186 : decode cX8_readTerm 186 = .ok (.aload_n 0, 1) := by decide +kernel
theorem dX8_readTerm_187 : decode cX8_readTerm 187 = .ok (.getfield 43, 3) := by decide +kernel
theorem dX8_readTerm_190 : decode cX8_readTerm 190 = .ok (.iload_n 1, 1) := by decide +kernel
theorem dX8_readTerm_191 : decode cX8_readTerm 191 = .ok (.iload 7, 2) := by decide +kernel
theorem dX8_readTerm_193 : decode cX8_readTerm 193 = .ok (.iastore, 1) := by decide +kernel
theorem dX8_readTerm_194 : decode cX8_readTerm 194 = .ok (.aload_n 0, 1) := by decide +kernel
theorem dX8_readTerm_195 : decode cX8_readTerm 195 = .ok (.dup, 1) := by decide +kernel
theorem dX8_readTerm_196 : decode cX8_readTerm 196 = .ok (.getfield 123, 3) := by decide +kernel
theorem dX8_readTerm_199 : decode cX8_readTerm 199 = .ok (.iconst 1, 1) := by decide +kernel
theorem dX8_readTerm_200 : decode cX8_readTerm 200 = .ok (.iadd, 1) := by decide +kernel
theorem dX8_readTerm_201 : decode cX8_readTerm 201 = .ok (.putfield 123, 3) := by decide +kernel
theorem dX8_readTerm_204 : decode cX8_readTerm 204 = .ok (.goto 14, 3) := by decide +kernel
theorem dX8_readTerm_207 : decode cX8_readTerm 207 = .ok (.iload 5, 2) := by decide +kernel
theorem dX8_readTerm_209 : decode cX8_readTerm 209 = .ok (.ifCond .ne 9, 3) := by decide +kernel
theorem dX8_readTerm_212 : decode cX8_readTerm 212 = .ok (.aload_n 0, 1) := by decide +kernel
theorem dX8_readTerm_213 : decode cX8_readTerm 213 = .ok (.iconst 1, 1) := by decide +kernel
theorem dX8_readTerm_214 : decode cX8_readTerm 214 = .ok (.putfield 130, 3) := by decide +kernel
theorem dX8_readTerm_217 : decode cX8_readTerm 217 = .ok (.return_, 1) := by decide +kernel
theorem dX8_readTerm_218 : decode cX8_readTerm 218 = .ok (.aload_n 0, 1) := by decide +kernel
theorem dX8_readTerm_219 : decode cX8_readTerm 219 = .ok (.getfield 40, 3) := by decide +kernel
theorem dX8_readTerm_222 : decode cX8_readTerm 222 = .ok (.iload_n 1, 1) := by decide +kernel
theorem dX8_readTerm_223 : decode cX8_readTerm 223 = .ok (.iload_n 2, 1) := by decide +kernel
theorem dX8_readTerm_224 : decode cX8_readTerm 224 = .ok (.ifCond .eq 9, 3) := by decide +kernel
theorem dX8_readTerm_227 : decode cX8_readTerm 227 = .ok (.iload 6, 2) := by decide +kernel
theorem dX8_readTerm_229 : decode cX8_readTerm 229 = .ok (.ineg, 1) := by decide +kernel
theorem dX8_readTerm_230 : decode cX8_readTerm 230 = .ok (.goto 5, 3) := by decide +kernel
theorem dX8_readTerm_233 : decode cX8_readTerm 233 = .ok (.iload 6, 2) := by decide +kernel
theorem dX8_readTerm_235 : decode cX8_readTerm 235 = .ok (.iastore, 1) := by decide +kernel
theorem dX8_readTerm_236 : decode cX8_readTerm 236 = .ok (.return_, 1) := by decide +kernel
theorem dX8_readSum_0 : decode cX8_readSum 0 = .ok (.aload_n 0, 1) := by decide +kernel
theorem dX8_readSum_1 : decode cX8_readSum 1 = .ok (.getfield 37, 3) := by decide +kernel
theorem dX8_readSum_4 : decode cX8_readSum 4 = .ok (.iload_n 1, 1) := by decide +kernel
theorem dX8_readSum_5 : decode cX8_readSum 5 = .ok (.iconst 0, 1) := by decide +kernel
theorem dX8_readSum_6 : decode cX8_readSum 6 = .ok (.iastore, 1) := by decide +kernel
theorem dX8_readSum_7 : decode cX8_readSum 7 = .ok (.iconst 1, 1) := by decide +kernel
theorem dX8_readSum_8 : decode cX8_readSum 8 = .ok (.istore_n 2, 1) := by decide +kernel
theorem dX8_readSum_9 : decode cX8_readSum 9 = .ok (.iconst 0, 1) := by decide +kernel
theorem dX8_readSum_10 : decode cX8_readSum 10 = .ok (.istore_n 3, 1) := by decide +kernel
theorem dX8_readSum_11 : decode cX8_readSum 11 = .ok (.iload_n 2, 1) := by decide +kernel
theorem dX8_readSum_12 : decode cX8_readSum 12 = .ok (.ifCond .eq 130, 3) := by decide +kernel
theorem dX8_readSum_15 : decode cX8_readSum 15 = .ok (.aload_n 0, 1) := by decide +kernel
theorem dX8_readSum_16 : decode cX8_readSum 16 = .ok (.getfield 130, 3) := by decide +kernel
theorem dX8_readSum_19 : decode cX8_readSum 19 = .ok (.ifCond .ne 123, 3) := by decide +kernel
theorem dX8_readSum_22 : decode cX8_readSum 22 = .ok (.aload_n 0, 1) := by decide +kernel
theorem dX8_readSum_23 : decode cX8_readSum 23 = .ok (.getfield 37, 3) := by decide +kernel
theorem dX8_readSum_26 : decode cX8_readSum 26 = .ok (.iload_n 1, 1) := by decide +kernel
theorem dX8_readSum_27 : decode cX8_readSum 27 = .ok (.iaload, 1) := by decide +kernel
theorem dX8_readSum_28 : decode cX8_readSum 28 = .ok (.iconst 4, 1) := by decide +kernel
theorem dX8_readSum_29 : decode cX8_readSum 29 = .ok (.if_icmp .ne 17, 3) := by decide +kernel
theorem dX8_readSum_32 : decode cX8_readSum 32 = .ok (.aload_n 0, 1) := by decide +kernel
theorem dX8_readSum_33 : decode cX8_readSum 33 = .ok (.invokevirtual 126, 3) := by decide +kernel
theorem dX8_readSum_36 : decode cX8_readSum 36 = .ok (.istore 4, 2) := by decide +kernel
theorem dX8_readSum_38 : decode cX8_readSum 38 = .ok (.aload_n 0, 1) := by decide +kernel
theorem dX8_readSum_39 : decode cX8_readSum 39 = .ok (.iconst 1, 1) := by decide +kernel
theorem dX8_readSum_40 : decode cX8_readSum 40 = .ok (.putfield 130, 3) := by decide +kernel
theorem dX8_readSum_43 : decode cX8_readSum 43 = .ok (.goto (-32), 3) := by decide +kernel
theorem dX8_readSum_46 : decode cX8_readSum 46 = .ok (.aload_n 0, 1) := by decide +kernel
theorem dX8_readSum_47 : decode cX8_readSum 47 = .ok (.iconst 4, 1) := by decide +kernel
theorem dX8_readSum_48 : decode cX8_readSum 48 = .ok (.iload_n 1, 1) := by decide +kernel
theorem dX8_readSum_49 : decode cX8_readSum 49 = .ok (.imul, 1) := by decide +kernel
theorem dX8_readSum_50 : decode cX8_readSum 50 = .ok (.aload_n 0, 1) := by decide +kernel
theorem dX8_readSum_51 : decode cX8_readSum 51 = .ok (.getfield 37, 3) := by decide +kernel
theorem dX8_readSum_54 : decode cX8_readSum 54 = .ok (.iload_n 1, 1) := by decide +kernel
theorem dX8_readSum_55 : decode cX8_readSum 55 = .ok (.iaload, 1) := by decide +kernel
theorem dX8_readSum_56 : decode cX8_readSum 56 = .ok (.iadd, 1) := by decide +kernel
theorem dX8_readSum_57 : decode cX8_readSum 57 = .ok (.iload_n 3, 1) := by decide +kernel
theorem dX8_readSum_58 : decode cX8_readSum 58 = .ok (.invokevirtual 138, 3) := by decide +kernel
theorem dX8_readSum_61 : decode cX8_readSum 61 = .ok (.aload_n 0, 1) := by decide +kernel
theorem dX8_readSum_62 : decode cX8_readSum 62 = .ok (.getfield 37, 3) := by decide +kernel
theorem dX8_readSum_65 : decode cX8_readSum 65 = .ok (.iload_n 1, 1) := by decide +kernel
theorem dX8_readSum_66 : decode cX8_readSum 66 = .ok (.dup2, 1) := by decide +kernel
theorem dX8_readSum_67 : decode cX8_readSum 67 = .ok (.iaload, 1) := by decide +kernel
theorem dX8_readSum_68 : decode cX8_readSum 68 = .ok (.iconst 1, 1) := by decide +kernel
theorem dX8_readSum_69 : decode cX8_readSum 69 = .ok (.iadd, 1) := by decide +kernel
theorem dX8_readSum_70 : decode cX8_readSum 70 = .ok (.iastore, 1) := by decide +kernel
theorem dX8_readSum_71 : decode cX8_readSum 71 = .ok (.aload_n 0, 1) := by decide +kernel
theorem dX8_readSum_72 : decode cX8_readSum 72 = .ok (.getfield 130, 3) := by decide +kernel
theorem dX8_readSum_75 : decode cX8_readSum 75 = .ok (.ifCond .eq 7, 3) := by decide +kernel
theorem dX8_readSum_78 : decode cX8_readSum 78 = .ok (.iconst 0, 1) := by decide +kernel
theorem dX8_readSum_79 : decode cX8_readSum 79 = .ok (.goto 7, 3) := by decide +kernel
theorem dX8_readSum_82 : decode cX8_readSum 82 = .ok (.aload_n 0, 1) := by decide +kernel
theorem dX8_readSum_83 : decode cX8_readSum 83 = .ok (.invokevirtual 126, 3) := by decide +kernel
theorem dX8_readSum_86 : decode cX8_readSum 86 = .ok (.istore 4, 2) := by decide +kernel
theorem dX8_readSum_88 : decode cX8_readSum 88 = .ok (.iload 4, 2) := by decide +kernel
theorem dX8_readSum_90 : decode cX8_readSum 90 = .ok (.bipush 43, 2) := by decide +kernel
theorem dX8_readSum_92 : decode cX8_readSum 92 = .ok (.if_icmp .eq 10, 3) := by decide +kernel
theorem dX8_readSum_95 : decode cX8_readSum 95 = .ok (.iload 4, 2) := by decide +kernel
theorem dX8_readSum_97 : decode cX8_readSum 97 = .ok (.bipush 45, 2) := by decide +kernel
theorem dX8_readSum_99 : decode cX8_readSum 99 = .ok (.if_icmp .ne 7, 3) := by decide +kernel
theorem dX8_readSum_102 : decode cX8_readSum 102 = .ok (.iconst 1, 1) := by decide +kernel
theorem dX8_readSum_103 : decode cX8_readSum 103 = .ok (.goto 4, 3) := by decide +kernel
theorem dX8_readSum_106 : decode cX8_readSum 106 = .ok (.iconst 0, 1) := by decide +kernel
theorem dX8_readSum_107 : decode cX8_readSum 107 = .ok (.istore_n 2, 1) := by decide +kernel
theorem dX8_readSum_108 : decode cX8_readSum 108 = .ok (.iload 4, 2) := by decide +kernel
theorem dX8_readSum_110 : decode cX8_readSum 110 = .ok (.bipush 45, 2) := by decide +kernel
theorem dX8_readSum_112 : decode cX8_readSum 112 = .ok (.if_icmp .ne 7, 3) := by decide +kernel
theorem dX8_readSum_115 : decode cX8_readSum 115 = .ok (.iconst 1, 1) := by decide +kernel
theorem dX8_readSum_116 : decode cX8_readSum 116 = .ok (.goto 4, 3) := by decide +kernel
theorem dX8_readSum_119 : decode cX8_readSum 119 = .ok (.iconst 0, 1) := by decide +kernel
theorem dX8_readSum_120 : decode cX8_readSum 120 = .ok (.istore_n 3, 1) := by decide +kernel
theorem dX8_readSum_121 : decode cX8_readSum 121 = .ok (.aload_n 0, 1) := by decide +kernel
theorem dX8_readSum_122 : decode cX8_readSum 122 = .ok (.dup, 1) := by decide +kernel
theorem dX8_readSum_123 : decode cX8_readSum 123 = .ok (.getfield 123, 3) := by decide +kernel
theorem dX8_readSum_126 : decode cX8_readSum 126 = .ok (.iload_n 2, 1) := by decide +kernel
theorem dX8_readSum_127 : decode cX8_readSum 127 = .ok (.ifCond .eq 7, 3) := by decide +kernel
theorem dX8_readSum_130 : decode cX8_readSum 130 = .ok (.iconst 1, 1) := by decide +kernel
theorem dX8_readSum_131 : decode cX8_readSum 131 = .ok (.goto 4, 3) := by decide +kernel
theorem dX8_readSum_134 : decode cX8_readSum 134 = .ok (.iconst 0, 1) := by decide +kernel
theorem dX8_readSum_135 : decode cX8_readSum 135 = .ok (.iadd, 1) := by decide +kernel
theorem dX8_readSum_136 : decode cX8_readSum 136 = .ok (.putfield 123, 3) := by decide +kernel
theorem dX8_readSum_139 : decode cX8_readSum 139 = .ok (.goto (-128), 3) := by decide +kernel
theorem dX8_readSum_142 : decode cX8_readSum 142 = .ok (.return_, 1) := by decide +kernel
theorem dX8_readState_0 : decode cX8_readState 0 = .ok (.bipush 6, 2) := by decide +kernel
theorem dX8_readState_2 : decode cX8_readState 2 = .ok (.iload_n 1, 1) := by decide +kernel
theorem dX8_readState_3 : decode cX8_readState 3 = .ok (.iadd, 1) := by decide +kernel
theorem dX8_readState_4 : decode cX8_readState 4 = .ok (.istore_n 2, 1) := by decide +kernel
theorem dX8_readState_5 : decode cX8_readState 5 = .ok (.aload_n 0, 1) := by decide +kernel
theorem dX8_readState_6 : decode cX8_readState 6 = .ok (.getfield 31, 3) := by decide +kernel
theorem dX8_readState_9 : decode cX8_readState 9 = .ok (.iload_n 2, 1) := by decide +kernel
theorem dX8_readState_10 : decode cX8_readState 10 = .ok (.iconst 0, 1) := by decide +kernel
theorem dX8_readState_11 : decode cX8_readState 11 = .ok (.iastore, 1) := by decide +kernel
theorem dX8_readState_12 : decode cX8_readState 12 = .ok (.iconst 1, 1) := by decide +kernel
theorem dX8_readState_13 : decode cX8_readState 13 = .ok (.istore_n 3, 1) := by decide +kernel
theorem dX8_readState_14 : decode cX8_readState 14 = .ok (.iload_n 3, 1) := by decide +kernel
theorem dX8_readState_15 : decode cX8_readState 15 = .ok (.ifCond .eq 195, 3) := by decide +kernel
theorem dX8_readState_18 : decode cX8_readState 18 = .ok (.aload_n 0, 1) := by decide +kernel
theorem dX8_readState_19 : decode cX8_readState 19 = .ok (.getfield 130, 3) := by decide +kernel
theorem dX8_readState_22 : decode cX8_readState 22 = .ok (.ifCond .ne 188, 3) := by decide +kernel
theorem dX8_readState_25 : decode cX8_readState 25 = .ok (.aload_n 0, 1) := by decide +kernel
theorem dX8_readState_26 : decode cX8_readState 26 = .ok (.getfield 31, 3) := by decide +kernel
theorem dX8_readState_29 : decode cX8_readState 29 = .ok (.iload_n 2, 1) := by decide +kernel
theorem dX8_readState_30 : decode cX8_readState 30 = .ok (.iaload, 1) := by decide +kernel
theorem dX8_readState_31 : decode cX8_readState 31 = .ok (.iconst 5, 1) := by decide +kernel
theorem dX8_readState_32 : decode cX8_readState 32 = .ok (.if_icmp .ne 15, 3) := by decide +kernel
theorem dX8_readState_35 : decode cX8_readState 35 = .ok (.aload_n 0, 1) := by decide +kernel
theorem dX8_readState_36 : decode cX8_readState 36 = .ok (.invokevirtual 126, 3) := by decide +kernel
theorem dX8_readState_39 : decode cX8_readState 39 = .ok (.istore 4, 2) := by decide +kernel
theorem dX8_readState_41 : decode cX8_readState 41 = .ok (.aload_n 0, 1) := by decide +kernel
theorem dX8_readState_42 : decode cX8_readState 42 = .ok (.iconst 1, 1) := by decide +kernel
theorem dX8_readState_43 : decode cX8_readState 43 = .ok (.putfield 130, 3) := by decide +kernel
theorem dX8_readState_46 : decode cX8_readState 46 = .ok (.return_, 1) := by decide +kernel
theorem dX8_readState_47 : decode cX8_readState 47 = .ok (.iconst 5, 1) := by decide +kernel
theorem dX8_readState_48 : decode cX8_readState 48 = .ok (.iload_n 2, 1) := by decide +kernel
theorem dX8_readState_49 : decode cX8_readState 49 = .ok (.imul, 1) := by decide +kernel
theorem dX8_readState_50 : decode cX8_readState 50 = .ok (.aload_n 0, 1) := by decide +kernel
theorem dX8_readState_51 : decode cX8_readState 51 = .ok (.getfield 31, 3) := by decide +kernel
theorem dX8_readState_54 : decode cX8_readState 54 = .ok (.iload_n 2, 1) := by decide +kernel
theorem dX8_readState_55 : decode cX8_readState 55 = .ok (.iaload, 1) := by decide +kernel
theorem dX8_readState_56 : decode cX8_readState 56 = .ok (.iadd, 1) := by decide +kernel
theorem dX8_readState_57 : decode cX8_readState 57 = .ok (.istore 4, 2) := by decide +kernel
theorem dX8_readState_59 : decode cX8_readState 59 = .ok (.aload_n 0, 1) := by decide +kernel
theorem dX8_readState_60 : decode cX8_readState 60 = .ok (.iconst 2, 1) := by decide +kernel
theorem dX8_readState_61 : decode cX8_readState 61 = .ok (.iload 4, 2) := by decide +kernel
theorem dX8_readState_63 : decode cX8_readState 63 = .ok (.imul, 1) := by decide +kernel
theorem dX8_readState_64 : decode cX8_readState 64 = .ok (.invokevirtual 142, 3) := by decide +kernel
theorem dX8_readState_67 : decode cX8_readState 67 = .ok (.aload_n 0, 1) := by decide +kernel
theorem dX8_readState_68 : decode cX8_readState 68 = .ok (.getfield 130, 3) := by decide +kernel
theorem dX8_readState_71 : decode cX8_readState 71 = .ok (.ifCond .eq 7, 3) := by decide +kernel
theorem dX8_readState_74 : decode cX8_readState 74 = .ok (.iconst 0, 1) := by decide +kernel
theorem dX8_readState_75 : decode cX8_readState 75 = .ok (.goto 7, 3) := by decide +kernel
theorem dX8_readState_78 : decode cX8_readState 78 = .ok (.aload_n 0, 1) := by decide +kernel
theorem dX8_readState_79 : decode cX8_readState 79 = .ok (.invokevirtual 126, 3) := by decide +kernel
theorem dX8_readState_82 : decode cX8_readState 82 = .ok (.istore 5, 2) := by decide +kernel
theorem dX8_readState_84 : decode cX8_readState 84 = .ok (.aload_n 0, 1) := by decide +kernel
theorem dX8_readState_85 : decode cX8_readState 85 = .ok (.aload_n 0, 1) := by decide +kernel
theorem dX8_readState_86 : decode cX8_readState 86 = .ok (.getfield 130, 3) := by decide +kernel
theorem dX8_readState_89 : decode cX8_readState 89 = .ok (.ifCond .ne 24, 3) := by decide +kernel
theorem dX8_readState_92 : decode cX8_readState 92 = .ok (.iload 5, 2) := by decide +kernel
theorem dX8_readState_94 : decode cX8_readState 94 = .ok (.bipush 60, 2) := by decide +kernel
theorem dX8_readState_96 : decode cX8_readState 96 = .ok (.if_icmp .eq 21, 3) := by decide +kernel
theorem dX8_readState_99 : decode cX8_readState 99 = .ok (.iload 5, 2) := by decide +kernel
theorem dX8_readState_101 : decode cX8_readState 101 = .ok (.bipush 62, 2) := by decide +kernel
theorem dX8_readState_103 : decode cX8_readState 103 = .ok (.if_icmp .eq 14, 3) := by decide +kernel
theorem dX8_readState_106 : decode cX8_readState 106 = .ok (.iload 5, 2) := by decide +kernel
theorem dX8_readState_108 : decode cX8_readState 108 = .ok (.bipush 61, 2) := by decide +kernel
theorem dX8_readState_110 : decode cX8_readState 110 = .ok (.if_icmp .eq 7, 3) := by decide +kernel
theorem dX8_readState_113 : decode cX8_readState 113 = .ok (.iconst 1, 1) := by decide +kernel
theorem dX8_readState_114 : decode cX8_readState 114 = .ok (.goto 4, 3) := by decide +kernel
theorem dX8_readState_117 : decode cX8_readState 117 = .ok (.iconst 0, 1) := by decide +kernel
theorem dX8_readState_118 : decode cX8_readState 118 = .ok (.putfield 130, 3) := by decide +kernel
theorem dX8_readState_121 : decode cX8_readState 121 = .ok (.aload_n 0, 1) := by decide +kernel
theorem dX8_readState_122 : decode cX8_readState 122 = .ok (.getfield 130, 3) := by decide +kernel
theorem dX8_readState_125 : decode cX8_readState 125 = .ok (.ifCond .ne 42, 3) := by decide +kernel
theorem dX8_readState_128 : decode cX8_readState 128 = .ok (.aload_n 0, 1) := by decide +kernel
theorem dX8_readState_129 : decode cX8_readState 129 = .ok (.getfield 34, 3) := by decide +kernel
theorem dX8_readState_132 : decode cX8_readState 132 = .ok (.iload 4, 2) := by decide +kernel
theorem dX8_readState_134 : decode cX8_readState 134 = .ok (.iload 5, 2) := by decide +kernel
theorem dX8_readState_136 : decode cX8_readState 136 = .ok (.iastore, 1) := by decide +kernel
theorem dX8_readState_137 : decode cX8_readState 137 = .ok (.aload_n 0, 1) := by decide +kernel
theorem dX8_readState_138 : decode cX8_readState 138 = .ok (.dup, 1) := by decide +kernel
theorem dX8_readState_139 : decode cX8_readState 139 = .ok (.getfield 123, 3) := by decide +kernel
theorem dX8_readState_142 : decode cX8_readState 142 = .ok (.iconst 1, 1) := by decide +kernel
theorem dX8_readState_143 : decode cX8_readState 143 = .ok (.iadd, 1) := by decide +kernel
theorem dX8_readState_144 : decode cX8_readState 144 = .ok (.putfield 123, 3) := by decide +kernel
theorem dX8_readState_147 : decode cX8_readState 147 = .ok (.aload_n 0, 1) := by decide +kernel
theorem dX8_readState_148 : decode cX8_readState 148 = .ok (.iconst 2, 1) := by decide +kernel
theorem dX8_readState_149 : decode cX8_readState 149 = .ok (.iload 4, 2) := by decide +kernel
theorem dX8_readState_151 : decode cX8_readState 151 = .ok (.imul, 1) := by decide +kernel
theorem dX8_readState_152 : decode cX8_readState 152 = .ok (.iconst 1, 1) := by decide +kernel
theorem dX8_readState_153 : decode cX8_readState 153 = .ok (.iadd, 1) := by decide +kernel
theorem dX8_readState_154 : decode cX8_readState 154 = .ok (.invokevirtual 142, 3) := by decide +kernel
theorem dX8_readState_157 : decode cX8_readState 157 = .ok (.aload_n 0, 1) := by decide +kernel
theorem dX8_readState_158 : decode cX8_readState 158 = .ok (.getfield 31, 3) := by decide +kernel
theorem dX8_readState_161 : decode cX8_readState 161 = .ok (.iload_n 2, 1) := by decide +kernel
theorem dX8_readState_162 : decode cX8_readState 162 = .ok (.dup2, 1) := by decide +kernel
theorem dX8_readState_163 : decode cX8_readState 163 = .ok (.iaload, 1) := by decide +kernel
theorem dX8_readState_164 : decode cX8_readState 164 = .ok (.iconst 1, 1) := by decide +kernel
theorem dX8_readState_165 : decode cX8_readState 165 = .ok (.iadd, 1) := by decide +kernel
theorem dX8_readState_166 : decode cX8_readState 166 = .ok (.iastore, 1) := by decide +kernel
theorem dX8_readState_167 : decode cX8_readState 167 = .ok (.aload_n 0, 1) := by decide +kernel
theorem dX8_readState_168 : decode cX8_readState 168 = .ok (.getfield 130, 3) := by decide +kernel
theorem dX8_readState_171 : decode cX8_readState 171 = .ok (.ifCond .ne 16, 3) := by decide +kernel
theorem dX8_readState_174 : decode cX8_readState 174 = .ok (.aload_n 0, 1) := by decide +kernel
theorem dX8_readState_175 : decode cX8_readState 175 = .ok (.invokevirtual 126, 3) := by decide +kernel
theorem dX8_readState_178 : decode cX8_readState 178 = .ok (.bipush 38, 2) := by decide +kernel
theorem dX8_readState_180 : decode cX8_readState 180 = .ok (.if_icmp .ne 7, 3) := by decide +kernel
theorem dX8_readState_183 : decode cX8_readState 183 = .ok (.iconst 1, 1) := by decide +kernel
theorem dX8_readState_184 : decode cX8_readState 184 = .ok (.goto 4, 3) := by decide +kernel
theorem dX8_readState_187 : decode cX8_readState 187 = .ok (.iconst 0, 1) := by decide +kernel
theorem dX8_readState_188 : decode cX8_readState 188 = .ok (.istore_n 3, 1) := by decide +kernel
theorem dX8_readState_189 : decode cX8_readState 189 = .ok (.aload_n 0, 1) := by decide +kernel
theorem dX8_readState_190 : decode cX8_readState 190 = .ok (.dup, 1) := by decide +kernel
theorem dX8_readState_191 : decode cX8_readState 191 = .ok (.getfield 123, 3) := by decide +kernel
theorem dX8_readState_194 : decode cX8_readState 194 = .ok (.iload_n 3, 1) := by decide +kernel
theorem dX8_readState_195 : decode cX8_readState 195 = .ok (.ifCond .eq 7, 3) := by decide +kernel
theorem dX8_readState_198 : decode cX8_readState 198 = .ok (.iconst 1, 1) := by decide +kernel
theorem dX8_readState_199 : decode cX8_readState 199 = .ok (.goto 4, 3) := by decide +kernel
theorem dX8_readState_202 : decode cX8_readState 202 = .ok (.iconst 0, 1) := by decide +kernel
theorem dX8_readState_203 : decode cX8_readState 203 = .ok (.iadd, 1) := by decide +kernel
theorem dX8_readState_204 : decode cX8_readState 204 = .ok (.putfield 123, 3) := by decide +kernel
theorem dX8_readState_207 : decode cX8_readState 207 = .ok (.goto (-193), 3) := by decide +kernel
theorem dX8_readState_210 : decode cX8_readState 210 = .ok (.return_, 1) := by decide +kernel
theorem dX8_states_0 : decode cX8_states 0 = .ok (.aload_n 0, 1) := by decide +kernel
theorem dX8_states_1 : decode cX8_states 1 = .ok (.iconst 0, 1) := by decide +kernel
theorem dX8_states_2 : decode cX8_states 2 = .ok (.putfield 123, 3) := by decide +kernel
theorem dX8_states_5 : decode cX8_states 5 = .ok (.aload_n 0, 1) := by decide +kernel
theorem dX8_states_6 : decode cX8_states 6 = .ok (.iconst 0, 1) := by decide +kernel
theorem dX8_states_7 : decode cX8_states 7 = .ok (.putfield 130, 3) := by decide +kernel
theorem dX8_states_10 : decode cX8_states 10 = .ok (.iconst 0, 1) := by decide +kernel
theorem dX8_states_11 : decode cX8_states 11 = .ok (.istore_n 1, 1) := by decide +kernel
theorem dX8_states_12 : decode cX8_states 12 = .ok (.iconst 1, 1) := by decide +kernel
theorem dX8_states_13 : decode cX8_states 13 = .ok (.istore_n 2, 1) := by decide +kernel
theorem dX8_states_14 : decode cX8_states 14 = .ok (.iload_n 2, 1) := by decide +kernel
theorem dX8_states_15 : decode cX8_states 15 = .ok (.ifCond .eq 119, 3) := by decide +kernel
theorem dX8_states_18 : decode cX8_states 18 = .ok (.aload_n 0, 1) := by decide +kernel
theorem dX8_states_19 : decode cX8_states 19 = .ok (.getfield 130, 3) := by decide +kernel
theorem dX8_states_22 : decode cX8_states 22 = .ok (.ifCond .ne 112, 3) := by decide +kernel
theorem dX8_states_25 : decode cX8_states 25 = .ok (.iload_n 1, 1) := by decide +kernel
theorem dX8_states_26 : decode cX8_states 26 = .ok (.bipush 6, 2) := by decide +kernel
theorem dX8_states_28 : decode cX8_states 28 = .ok (.if_icmp .ne 16, 3) := by decide +kernel
theorem dX8_states_31 : decode cX8_states 31 = .ok (.aload_n 0, 1) := by decide +kernel
theorem dX8_states_32 : decode cX8_states 32 = .ok (.invokevirtual 126, 3) := by decide +kernel
theorem dX8_states_35 : decode cX8_states 35 = .ok (.istore_n 3, 1) := by decide +kernel
theorem dX8_states_36 : decode cX8_states 36 = .ok (.aload_n 0, 1) := by decide +kernel
theorem dX8_states_37 : decode cX8_states 37 = .ok (.iconst 1, 1) := by decide +kernel
theorem dX8_states_38 : decode cX8_states 38 = .ok (.putfield 130, 3) := by decide +kernel
theorem dX8_states_41 : decode cX8_states 41 = .ok (.goto (-27), 3) := by decide +kernel
theorem dX8_states_44 : decode cX8_states 44 = .ok (.aload_n 0, 1) := by decide +kernel
theorem dX8_states_45 : decode cX8_states 45 = .ok (.iload_n 1, 1) := by decide +kernel
theorem dX8_states_46 : decode cX8_states 46 = .ok (.invokevirtual 146, 3) := by decide +kernel
theorem dX8_states_49 : decode cX8_states 49 = .ok (.iinc 1 1, 3) := by decide +kernel
theorem dX8_states_52 : decode cX8_states 52 = .ok (.aload_n 0, 1) := by decide +kernel
theorem dX8_states_53 : decode cX8_states 53 = .ok (.getfield 130, 3) := by decide +kernel
theorem dX8_states_56 : decode cX8_states 56 = .ok (.ifCond .eq 7, 3) := by decide +kernel
theorem dX8_states_59 : decode cX8_states 59 = .ok (.iconst 0, 1) := by decide +kernel
theorem dX8_states_60 : decode cX8_states 60 = .ok (.goto 7, 3) := by decide +kernel
theorem dX8_states_63 : decode cX8_states 63 = .ok (.aload_n 0, 1) := by decide +kernel
theorem dX8_states_64 : decode cX8_states 64 = .ok (.invokevirtual 126, 3) := by decide +kernel
theorem dX8_states_67 : decode cX8_states 67 = .ok (.istore_n 3, 1) := by decide +kernel
theorem dX8_states_68 : decode cX8_states 68 = .ok (.aload_n 0, 1) := by decide +kernel
theorem dX8_states_69 : decode cX8_states 69 = .ok (.aload_n 0, 1) := by decide +kernel
theorem dX8_states_70 : decode cX8_states 70 = .ok (.getfield 130, 3) := by decide +kernel
theorem dX8_states_73 : decode cX8_states 73 = .ok (.ifCond .ne 13, 3) := by decide +kernel
theorem dX8_states_76 : decode cX8_states 76 = .ok (.iload_n 3, 1) := by decide +kernel
theorem dX8_states_77 : decode cX8_states 77 = .ok (.ifCond .eq 13, 3) := by decide +kernel
theorem dX8_states_80 : decode cX8_states 80 = .ok (.iload_n 3, 1) := by decide +kernel
theorem dX8_states_81 : decode cX8_states 81 = .ok (.bipush 59, 2) := by decide +kernel
theorem dX8_states_83 : decode cX8_states 83 = .ok (.if_icmp .eq 7, 3) := by decide +kernel
theorem dX8_states_86 : decode cX8_states 86 = .ok (.iconst 1, 1) := by decide +kernel
theorem dX8_states_87 : decode cX8_states 87 = .ok (.goto 4, 3) := by decide +kernel
theorem dX8_states_90 : decode cX8_states 90 = .ok (.iconst 0, 1) := by decide +kernel
theorem dX8_states_91 : decode cX8_states 91 = .ok (.putfield 130, 3) := by decide +kernel
theorem dX8_states_94 : decode cX8_states 94 = .ok (.aload_n 0, 1) := by decide +kernel
theorem dX8_states_95 : decode cX8_states 95 = .ok (.getfield 130, 3) := by decide +kernel
theorem dX8_states_98 : decode cX8_states 98 = .ok (.ifCond .ne 13, 3) := by decide +kernel
theorem dX8_states_101 : decode cX8_states 101 = .ok (.iload_n 3, 1) := by decide +kernel
theorem dX8_states_102 : decode cX8_states 102 = .ok (.bipush 59, 2) := by decide +kernel
theorem dX8_states_104 : decode cX8_states 104 = .ok (.if_icmp .ne 7, 3) := by decide +kernel
theorem dX8_states_107 : decode cX8_states 107 = .ok (.iconst 1, 1) := by decide +kernel
theorem dX8_states_108 : decode cX8_states 108 = .ok (.goto 4, 3) := by decide +kernel
theorem dX8_states_111 : decode cX8_states 111 = .ok (.iconst 0, 1) := by decide +kernel
theorem dX8_states_112 : decode cX8_states 112 = .ok (.istore_n 2, 1) := by decide +kernel
theorem dX8_states_113 : decode cX8_states 113 = .ok (.aload_n 0, 1) := by decide +kernel
theorem dX8_states_114 : decode cX8_states 114 = .ok (.dup, 1) := by decide +kernel
theorem dX8_states_115 : decode cX8_states 115 = .ok (.getfield 123, 3) := by decide +kernel
theorem dX8_states_118 : decode cX8_states 118 = .ok (.iload_n 2, 1) := by decide +kernel
theorem dX8_states_119 : decode cX8_states 119 = .ok (.ifCond .eq 7, 3) := by decide +kernel
theorem dX8_states_122 : decode cX8_states 122 = .ok (.iconst 1, 1) := by decide +kernel
theorem dX8_states_123 : decode cX8_states 123 = .ok (.goto 4, 3) := by decide +kernel
theorem dX8_states_126 : decode cX8_states 126 = .ok (.iconst 0, 1) := by decide +kernel
theorem dX8_states_127 : decode cX8_states 127 = .ok (.iadd, 1) := by decide +kernel
theorem dX8_states_128 : decode cX8_states 128 = .ok (.putfield 123, 3) := by decide +kernel
theorem dX8_states_131 : decode cX8_states 131 = .ok (.goto (-117), 3) := by decide +kernel
theorem dX8_states_134 : decode cX8_states 134 = .ok (.aload_n 0, 1) := by decide +kernel
theorem dX8_states_135 : decode cX8_states 135 = .ok (.iconst 0, 1) := by decide +kernel
theorem dX8_states_136 : decode cX8_states 136 = .ok (.putfield 120, 3) := by decide +kernel
theorem dX8_states_139 : decode cX8_states 139 = .ok (.aload_n 0, 1) := by decide +kernel
theorem dX8_states_140 : decode cX8_states 140 = .ok (.getfield 130, 3) := by decide +kernel
theorem dX8_states_143 : decode cX8_states 143 = .ok (.ifCond .eq 10, 3) := by decide +kernel
theorem dX8_states_146 : decode cX8_states 146 = .ok (.iconst (-1), 1) := by decide +kernel
theorem dX8_states_147 : decode cX8_states 147 = .ok (.aload_n 0, 1) := by decide +kernel
theorem dX8_states_148 : decode cX8_states 148 = .ok (.getfield 123, 3) := by decide +kernel
theorem dX8_states_151 : decode cX8_states 151 = .ok (.isub, 1) := by decide +kernel
theorem dX8_states_152 : decode cX8_states 152 = .ok (.ireturn, 1) := by decide +kernel
theorem dX8_states_153 : decode cX8_states 153 = .ok (.aload_n 0, 1) := by decide +kernel
theorem dX8_states_154 : decode cX8_states 154 = .ok (.iload_n 1, 1) := by decide +kernel
theorem dX8_states_155 : decode cX8_states 155 = .ok (.putfield 149, 3) := by decide +kernel
theorem dX8_states_158 : decode cX8_states 158 = .ok (.iconst 0, 1) := by decide +kernel
theorem dX8_states_159 : decode cX8_states 159 = .ok (.istore_n 3, 1) := by decide +kernel
theorem dX8_states_160 : decode cX8_states 160 = .ok (.iload_n 3, 1) := by decide +kernel
theorem dX8_states_161 : decode cX8_states 161 = .ok (.bipush 6, 2) := by decide +kernel
theorem dX8_states_163 : decode cX8_states 163 = .ok (.if_icmp .ge 24, 3) := by decide +kernel
theorem dX8_states_166 : decode cX8_states 166 = .ok (.aload_n 0, 1) := by decide +kernel
theorem dX8_states_167 : decode cX8_states 167 = .ok (.getfield 31, 3) := by decide +kernel
theorem dX8_states_170 : decode cX8_states 170 = .ok (.iload_n 3, 1) := by decide +kernel
theorem dX8_states_171 : decode cX8_states 171 = .ok (.aload_n 0, 1) := by decide +kernel
theorem dX8_states_172 : decode cX8_states 172 = .ok (.getfield 31, 3) := by decide +kernel
theorem dX8_states_175 : decode cX8_states 175 = .ok (.bipush 6, 2) := by decide +kernel
theorem dX8_states_177 : decode cX8_states 177 = .ok (.iload_n 3, 1) := by decide +kernel
theorem dX8_states_178 : decode cX8_states 178 = .ok (.iadd, 1) := by decide +kernel
theorem dX8_states_179 : decode cX8_states 179 = .ok (.iaload, 1) := by decide +kernel
theorem dX8_states_180 : decode cX8_states 180 = .ok (.iastore, 1) := by decide +kernel
theorem dX8_states_181 : decode cX8_states 181 = .ok (.iinc 3 1, 3) := by decide +kernel
theorem dX8_states_184 : decode cX8_states 184 = .ok (.goto (-24), 3) := by decide +kernel
theorem dX8_states_187 : decode cX8_states 187 = .ok (.iconst 0, 1) := by decide +kernel
theorem dX8_states_188 : decode cX8_states 188 = .ok (.istore_n 3, 1) := by decide +kernel
theorem dX8_states_189 : decode cX8_states 189 = .ok (.iload_n 3, 1) := by decide +kernel
theorem dX8_states_190 : decode cX8_states 190 = .ok (.bipush 30, 2) := by decide +kernel
theorem dX8_states_192 : decode cX8_states 192 = .ok (.if_icmp .ge 24, 3) := by decide +kernel
theorem dX8_states_195 : decode cX8_states 195 = .ok (.aload_n 0, 1) := by decide +kernel
theorem dX8_states_196 : decode cX8_states 196 = .ok (.getfield 34, 3) := by decide +kernel
theorem dX8_states_199 : decode cX8_states 199 = .ok (.iload_n 3, 1) := by decide +kernel
theorem dX8_states_200 : decode cX8_states 200 = .ok (.aload_n 0, 1) := by decide +kernel
theorem dX8_states_201 : decode cX8_states 201 = .ok (.getfield 34, 3) := by decide +kernel
theorem dX8_states_204 : decode cX8_states 204 = .ok (.bipush 30, 2) := by decide +kernel
theorem dX8_states_206 : decode cX8_states 206 = .ok (.iload_n 3, 1) := by decide +kernel
theorem dX8_states_207 : decode cX8_states 207 = .ok (.iadd, 1) := by decide +kernel
theorem dX8_states_208 : decode cX8_states 208 = .ok (.iaload, 1) := by decide +kernel
theorem dX8_states_209 : decode cX8_states 209 = .ok (.iastore, 1) := by decide +kernel
theorem dX8_states_210 : decode cX8_states 210 = .ok (.iinc 3 1, 3) := by decide +kernel
theorem dX8_states_213 : decode cX8_states 213 = .ok (.goto (-24), 3) := by decide +kernel
theorem dX8_states_216 : decode cX8_states 216 = .ok (.iconst 0, 1) := by decide +kernel
theorem dX8_states_217 : decode cX8_states 217 = .ok (.istore_n 3, 1) := by decide +kernel
theorem dX8_states_218 : decode cX8_states 218 = .ok (.iload_n 3, 1) := by decide +kernel
theorem dX8_states_219 : decode cX8_states 219 = .ok (.bipush 60, 2) := by decide +kernel
theorem dX8_states_221 : decode cX8_states 221 = .ok (.if_icmp .ge 24, 3) := by decide +kernel
theorem dX8_states_224 : decode cX8_states 224 = .ok (.aload_n 0, 1) := by decide +kernel
theorem dX8_states_225 : decode cX8_states 225 = .ok (.getfield 37, 3) := by decide +kernel
theorem dX8_states_228 : decode cX8_states 228 = .ok (.iload_n 3, 1) := by decide +kernel
theorem dX8_states_229 : decode cX8_states 229 = .ok (.aload_n 0, 1) := by decide +kernel
theorem dX8_states_230 : decode cX8_states 230 = .ok (.getfield 37, 3) := by decide +kernel
theorem dX8_states_233 : decode cX8_states 233 = .ok (.bipush 60, 2) := by decide +kernel
theorem dX8_states_235 : decode cX8_states 235 = .ok (.iload_n 3, 1) := by decide +kernel
theorem dX8_states_236 : decode cX8_states 236 = .ok (.iadd, 1) := by decide +kernel
theorem dX8_states_237 : decode cX8_states 237 = .ok (.iaload, 1) := by decide +kernel
theorem dX8_states_238 : decode cX8_states 238 = .ok (.iastore, 1) := by decide +kernel
theorem dX8_states_239 : decode cX8_states 239 = .ok (.iinc 3 1, 3) := by decide +kernel
theorem dX8_states_242 : decode cX8_states 242 = .ok (.goto (-24), 3) := by decide +kernel
theorem dX8_states_245 : decode cX8_states 245 = .ok (.iconst 0, 1) := by decide +kernel
theorem dX8_states_246 : decode cX8_states 246 = .ok (.istore_n 3, 1) := by decide +kernel
theorem dX8_states_247 : decode cX8_states 247 = .ok (.iload_n 3, 1) := by decide +kernel
theorem dX8_states_248 : decode cX8_states 248 = .ok (.sipush 240, 3) := by decide +kernel
theorem dX8_states_251 : decode cX8_states 251 = .ok (.if_icmp .ge 41, 3) := by decide +kernel
theorem dX8_states_254 : decode cX8_states 254 = .ok (.aload_n 0, 1) := by decide +kernel
theorem dX8_states_255 : decode cX8_states 255 = .ok (.getfield 40, 3) := by decide +kernel
theorem dX8_states_258 : decode cX8_states 258 = .ok (.iload_n 3, 1) := by decide +kernel
theorem dX8_states_259 : decode cX8_states 259 = .ok (.aload_n 0, 1) := by decide +kernel
theorem dX8_states_260 : decode cX8_states 260 = .ok (.getfield 40, 3) := by decide +kernel
theorem dX8_states_263 : decode cX8_states 263 = .ok (.sipush 240, 3) := by decide +kernel
theorem dX8_states_266 : decode cX8_states 266 = .ok (.iload_n 3, 1) := by decide +kernel
theorem dX8_states_267 : decode cX8_states 267 = .ok (.iadd, 1) := by decide +kernel
theorem dX8_states_268 : decode cX8_states 268 = .ok (.iaload, 1) := by decide +kernel
theorem dX8_states_269 : decode cX8_states 269 = .ok (.iastore, 1) := by decide +kernel
theorem dX8_states_270 : decode cX8_states 270 = .ok (.aload_n 0, 1) := by decide +kernel
theorem dX8_states_271 : decode cX8_states 271 = .ok (.getfield 43, 3) := by decide +kernel
theorem dX8_states_274 : decode cX8_states 274 = .ok (.iload_n 3, 1) := by decide +kernel
theorem dX8_states_275 : decode cX8_states 275 = .ok (.aload_n 0, 1) := by decide +kernel
theorem dX8_states_276 : decode cX8_states 276 = .ok (.getfield 43, 3) := by decide +kernel
theorem dX8_states_279 : decode cX8_states 279 = .ok (.sipush 240, 3) := by decide +kernel
theorem dX8_states_282 : decode cX8_states 282 = .ok (.iload_n 3, 1) := by decide +kernel
theorem dX8_states_283 : decode cX8_states 283 = .ok (.iadd, 1) := by decide +kernel
theorem dX8_states_284 : decode cX8_states 284 = .ok (.iaload, 1) := by decide +kernel
theorem dX8_states_285 : decode cX8_states 285 = .ok (.iastore, 1) := by decide +kernel
theorem dX8_states_286 : decode cX8_states 286 = .ok (.iinc 3 1, 3) := by decide +kernel
theorem dX8_states_289 : decode cX8_states 289 = .ok (.goto (-42), 3) := by decide +kernel
theorem dX8_states_292 : decode cX8_states 292 = .ok (.aload_n 0, 1) := by decide +kernel
theorem dX8_states_293 : decode cX8_states 293 = .ok (.getfield 149, 3) := by decide +kernel
theorem dX8_states_296 : decode cX8_states 296 = .ok (.ireturn, 1) := by decide +kernel
theorem dX8_sumOf_0 : decode cX8_sumOf 0 = .ok (.lconst 0, 1) := by decide +kernel
theorem dX8_sumOf_1 : decode cX8_sumOf 1 = .ok (.lstore 6, 2) := by decide +kernel
theorem dX8_sumOf_3 : decode cX8_sumOf 3 = .ok (.iconst 4, 1) := by decide +kernel
theorem dX8_sumOf_4 : decode cX8_sumOf 4 = .ok (.iload_n 1, 1) := by decide +kernel
theorem dX8_sumOf_5 : decode cX8_sumOf 5 = .ok (.imul, 1) := by decide +kernel
theorem dX8_sumOf_6 : decode cX8_sumOf 6 = .ok (.istore 8, 2) := by decide +kernel
theorem dX8_sumOf_8 : decode cX8_sumOf 8 = .ok (.iload 8, 2) := by decide +kernel
theorem dX8_sumOf_10 : decode cX8_sumOf 10 = .ok (.iconst 4, 1) := by decide +kernel
theorem dX8_sumOf_11 : decode cX8_sumOf 11 = .ok (.iload_n 1, 1) := by decide +kernel
theorem dX8_sumOf_12 : decode cX8_sumOf 12 = .ok (.imul, 1) := by decide +kernel
theorem dX8_sumOf_13 : decode cX8_sumOf 13 = .ok (.aload_n 0, 1) := by decide +kernel
theorem dX8_sumOf_14 : decode cX8_sumOf 14 = .ok (.getfield 37, 3) := by decide +kernel
theorem dX8_sumOf_17 : decode cX8_sumOf 17 = .ok (.iload_n 1, 1) := by decide +kernel
theorem dX8_sumOf_18 : decode cX8_sumOf 18 = .ok (.iaload, 1) := by decide +kernel
theorem dX8_sumOf_19 : decode cX8_sumOf 19 = .ok (.iadd, 1) := by decide +kernel
theorem dX8_sumOf_20 : decode cX8_sumOf 20 = .ok (.if_icmp .ge 127, 3) := by decide +kernel
theorem dX8_sumOf_23 : decode cX8_sumOf 23 = .ok (.aload_n 0, 1) := by decide +kernel
theorem dX8_sumOf_24 : decode cX8_sumOf 24 = .ok (.getfield 43, 3) := by decide +kernel
theorem dX8_sumOf_27 : decode cX8_sumOf 27 = .ok (.iload 8, 2) := by decide +kernel
theorem dX8_sumOf_29 : decode cX8_sumOf 29 = .ok (.iaload, 1) := by decide +kernel
theorem dX8_sumOf_30 : decode cX8_sumOf 30 = .ok (.istore 9, 2) := by decide +kernel
theorem dX8_sumOf_32 : decode cX8_sumOf 32 = .ok (.iload 9, 2) := by decide +kernel
theorem dX8_sumOf_34 : decode cX8_sumOf 34 = .ok (.ifCond .ne 7, 3) := by decide +kernel
theorem dX8_sumOf_37 : decode cX8_sumOf 37 = .ok (.lconst 1, 1) := by decide +kernel
theorem dX8_sumOf_38 : decode cX8_sumOf 38 = .ok (.goto 85, 3) := by decide +kernel
theorem dX8_sumOf_41 : decode cX8_sumOf 41 = .ok (.iload 9, 2) := by decide +kernel
theorem dX8_sumOf_43 : decode cX8_sumOf 43 = .ok (.bipush 104, 2) := by decide +kernel
theorem dX8_sumOf_45 : decode cX8_sumOf 45 = .ok (.if_icmp .ne 8, 3) := by decide +kernel
theorem dX8_sumOf_48 : decode cX8_sumOf 48 = .ok (.iload_n 3, 1) := by decide +kernel
theorem dX8_sumOf_49 : decode cX8_sumOf 49 = .ok (.i2l, 1) := by decide +kernel
theorem dX8_sumOf_50 : decode cX8_sumOf 50 = .ok (.goto 73, 3) := by decide +kernel
theorem dX8_sumOf_53 : decode cX8_sumOf 53 = .ok (.iload 9, 2) := by decide +kernel
theorem dX8_sumOf_55 : decode cX8_sumOf 55 = .ok (.bipush 116, 2) := by decide +kernel
theorem dX8_sumOf_57 : decode cX8_sumOf 57 = .ok (.if_icmp .ne 9, 3) := by decide +kernel
theorem dX8_sumOf_60 : decode cX8_sumOf 60 = .ok (.iload 4, 2) := by decide +kernel
theorem dX8_sumOf_62 : decode cX8_sumOf 62 = .ok (.i2l, 1) := by decide +kernel
theorem dX8_sumOf_63 : decode cX8_sumOf 63 = .ok (.goto 60, 3) := by decide +kernel
theorem dX8_sumOf_66 : decode cX8_sumOf 66 = .ok (.iload 9, 2) := by decide +kernel
theorem dX8_sumOf_68 : decode cX8_sumOf 68 = .ok (.bipush 113, 2) := by decide +kernel
theorem dX8_sumOf_70 : decode cX8_sumOf 70 = .ok (.if_icmp .ne 9, 3) := by decide +kernel
theorem dX8_sumOf_73 : decode cX8_sumOf 73 = .ok (.iload 5, 2) := by decide +kernel
theorem dX8_sumOf_75 : decode cX8_sumOf 75 = .ok (.i2l, 1) := by decide +kernel
theorem dX8_sumOf_76 : decode cX8_sumOf 76 = .ok (.goto 47, 3) := by decide +kernel
theorem dX8_sumOf_79 : decode cX8_sumOf 79 = .ok (.aload_n 0, 1) := by decide +kernel
theorem dX8_sumOf_80 : decode cX8_sumOf 80 = .ok (.getfield 25, 3) := by decide +kernel
theorem dX8_sumOf_83 : decode cX8_sumOf 83 = .ok (.iconst 4, 1) := by decide +kernel
theorem dX8_sumOf_84 : decode cX8_sumOf 84 = .ok (.iload_n 2, 1) := by decide +kernel
theorem dX8_sumOf_85 : decode cX8_sumOf 85 = .ok (.imul, 1) := by decide +kernel
theorem dX8_sumOf_86 : decode cX8_sumOf 86 = .ok (.iload 9, 2) := by decide +kernel
theorem dX8_sumOf_88 : decode cX8_sumOf 88 = .ok (.bipush 119, 2) := by decide +kernel
theorem dX8_sumOf_90 : decode cX8_sumOf 90 = .ok (.if_icmp .ne 7, 3) := by decide +kernel
theorem dX8_sumOf_93 : decode cX8_sumOf 93 = .ok (.iconst 0, 1) := by decide +kernel
theorem dX8_sumOf_94 : decode cX8_sumOf 94 = .ok (.goto 26, 3) := by decide +kernel
theorem dX8_sumOf_97 : decode cX8_sumOf 97 = .ok (.iload 9, 2) := by decide +kernel
theorem dX8_sumOf_99 : decode cX8_sumOf 99 = .ok (.bipush 100, 2) := by decide +kernel
theorem dX8_sumOf_101 : decode cX8_sumOf 101 = .ok (.if_icmp .ne 7, 3) := by decide +kernel
theorem dX8_sumOf_104 : decode cX8_sumOf 104 = .ok (.iconst 1, 1) := by decide +kernel
theorem dX8_sumOf_105 : decode cX8_sumOf 105 = .ok (.goto 15, 3) := by decide +kernel
theorem dX8_sumOf_108 : decode cX8_sumOf 108 = .ok (.iload 9, 2) := by decide +kernel
theorem dX8_sumOf_110 : decode cX8_sumOf 110 = .ok (.bipush 108, 2) := by decide +kernel
theorem dX8_sumOf_112 : decode cX8_sumOf 112 = .ok (.if_icmp .ne 7, 3) := by decide +kernel
theorem dX8_sumOf_115 : decode cX8_sumOf 115 = .ok (.iconst 2, 1) := by decide +kernel
theorem dX8_sumOf_116 : decode cX8_sumOf 116 = .ok (.goto 4, 3) := by decide +kernel
theorem dX8_sumOf_119 : decode cX8_sumOf 119 = .ok (.iconst 3, 1) := by decide +kernel
theorem dX8_sumOf_120 : decode cX8_sumOf 120 = .ok (.iadd, 1) := by decide +kernel
theorem dX8_sumOf_121 : decode cX8_sumOf 121 = .ok (.iaload, 1) := by decide +kernel
theorem dX8_sumOf_122 : decode cX8_sumOf 122 = .ok (.i2l, 1) := by decide +kernel
theorem dX8_sumOf_123 : decode cX8_sumOf 123 = .ok (.lstore 10, 2) := by decide +kernel
theorem dX8_sumOf_125 : decode cX8_sumOf 125 = .ok (.lload 6, 2) := by decide +kernel
theorem dX8_sumOf_127 : decode cX8_sumOf 127 = .ok (.aload_n 0, 1) := by decide +kernel
theorem dX8_sumOf_128 : decode cX8_sumOf 128 = .ok (.getfield 40, 3) := by decide +kernel
theorem dX8_sumOf_131 : decode cX8_sumOf 131 = .ok (.iload 8, 2) := by decide +kernel
theorem dX8_sumOf_133 : decode cX8_sumOf 133 = .ok (.iaload, 1) := by decide +kernel
theorem dX8_sumOf_134 : decode cX8_sumOf 134 = .ok (.i2l, 1) := by decide +kernel
theorem dX8_sumOf_135 : decode cX8_sumOf 135 = .ok (.lload 10, 2) := by decide +kernel
theorem dX8_sumOf_137 : decode cX8_sumOf 137 = .ok (.lmul, 1) := by decide +kernel
theorem dX8_sumOf_138 : decode cX8_sumOf 138 = .ok (.ladd, 1) := by decide +kernel
theorem dX8_sumOf_139 : decode cX8_sumOf 139 = .ok (.lstore 6, 2) := by decide +kernel
theorem dX8_sumOf_141 : decode cX8_sumOf 141 = .ok (.iinc 8 1, 3) := by decide +kernel
theorem dX8_sumOf_144 : decode cX8_sumOf 144 = .ok (.goto (-136), 3) := by decide +kernel
theorem dX8_sumOf_147 : decode cX8_sumOf 147 = .ok (.lload 6, 2) := by decide +kernel
theorem dX8_sumOf_149 : decode cX8_sumOf 149 = .ok (.lreturn, 1) := by decide +kernel
theorem dX8_isIn_0 : decode cX8_isIn 0 = .ok (.iconst 1, 1) := by decide +kernel
theorem dX8_isIn_1 : decode cX8_isIn 1 = .ok (.istore 6, 2) := by decide +kernel
theorem dX8_isIn_3 : decode cX8_isIn 3 = .ok (.iconst 0, 1) := by decide +kernel
theorem dX8_isIn_4 : decode cX8_isIn 4 = .ok (.istore 7, 2) := by decide +kernel
theorem dX8_isIn_6 : decode cX8_isIn 6 = .ok (.iload 7, 2) := by decide +kernel
theorem dX8_isIn_8 : decode cX8_isIn 8 = .ok (.aload_n 0, 1) := by decide +kernel
theorem dX8_isIn_9 : decode cX8_isIn 9 = .ok (.getfield 31, 3) := by decide +kernel
theorem dX8_isIn_12 : decode cX8_isIn 12 = .ok (.iload_n 1, 1) := by decide +kernel
theorem dX8_isIn_13 : decode cX8_isIn 13 = .ok (.iaload, 1) := by decide +kernel
theorem dX8_isIn_14 : decode cX8_isIn 14 = .ok (.if_icmp .ge 127, 3) := by decide +kernel
theorem dX8_isIn_17 : decode cX8_isIn 17 = .ok (.iload 6, 2) := by decide +kernel
theorem dX8_isIn_19 : decode cX8_isIn 19 = .ok (.ifCond .eq 122, 3) := by decide +kernel
theorem dX8_isIn_22 : decode cX8_isIn 22 = .ok (.iconst 5, 1) := by decide +kernel
theorem dX8_isIn_23 : decode cX8_isIn 23 = .ok (.iload_n 1, 1) := by decide +kernel
theorem dX8_isIn_24 : decode cX8_isIn 24 = .ok (.imul, 1) := by decide +kernel
theorem dX8_isIn_25 : decode cX8_isIn 25 = .ok (.iload 7, 2) := by decide +kernel
theorem dX8_isIn_27 : decode cX8_isIn 27 = .ok (.iadd, 1) := by decide +kernel
theorem dX8_isIn_28 : decode cX8_isIn 28 = .ok (.istore 8, 2) := by decide +kernel
theorem dX8_isIn_30 : decode cX8_isIn 30 = .ok (.aload_n 0, 1) := by decide +kernel
theorem dX8_isIn_31 : decode cX8_isIn 31 = .ok (.iconst 2, 1) := by decide +kernel
theorem dX8_isIn_32 : decode cX8_isIn 32 = .ok (.iload 8, 2) := by decide +kernel
theorem dX8_isIn_34 : decode cX8_isIn 34 = .ok (.imul, 1) := by decide +kernel
theorem dX8_isIn_35 : decode cX8_isIn 35 = .ok (.iload_n 2, 1) := by decide +kernel
theorem dX8_isIn_36 : decode cX8_isIn 36 = .ok (.iload_n 3, 1) := by decide +kernel
theorem dX8_isIn_37 : decode cX8_isIn 37 = .ok (.iload 4, 2) := by decide +kernel
theorem dX8_isIn_39 : decode cX8_isIn 39 = .ok (.iload 5, 2) := by decide +kernel
theorem dX8_isIn_41 : decode cX8_isIn 41 = .ok (.invokevirtual 152, 3) := by decide +kernel
theorem dX8_isIn_44 : decode cX8_isIn 44 = .ok (.lstore 9, 2) := by decide +kernel
theorem dX8_isIn_46 : decode cX8_isIn 46 = .ok (.aload_n 0, 1) := by decide +kernel
theorem dX8_isIn_47 : decode cX8_isIn 47 = .ok (.iconst 2, 1) := by decide +kernel
theorem dX8_isIn_48 : decode cX8_isIn 48 = .ok (.iload 8, 2) := by decide +kernel
theorem dX8_isIn_50 : decode cX8_isIn 50 = .ok (.imul, 1) := by decide +kernel
theorem dX8_isIn_51 : decode cX8_isIn 51 = .ok (.iconst 1, 1) := by decide +kernel
theorem dX8_isIn_52 : decode cX8_isIn 52 = .ok (.iadd, 1) := by decide +kernel
theorem dX8_isIn_53 : decode cX8_isIn 53 = .ok (.iload_n 2, 1) := by decide +kernel
theorem dX8_isIn_54 : decode cX8_isIn 54 = .ok (.iload_n 3, 1) := by decide +kernel
theorem dX8_isIn_55 : decode cX8_isIn 55 = .ok (.iload 4, 2) := by decide +kernel
theorem dX8_isIn_57 : decode cX8_isIn 57 = .ok (.iload 5, 2) := by decide +kernel
theorem dX8_isIn_59 : decode cX8_isIn 59 = .ok (.invokevirtual 152, 3) := by decide +kernel
theorem dX8_isIn_62 : decode cX8_isIn 62 = .ok (.lstore 11, 2) := by decide +kernel
theorem dX8_isIn_64 : decode cX8_isIn 64 = .ok (.aload_n 0, 1) := by decide +kernel
theorem dX8_isIn_65 : decode cX8_isIn 65 = .ok (.getfield 34, 3) := by decide +kernel
theorem dX8_isIn_68 : decode cX8_isIn 68 = .ok (.iload 8, 2) := by decide +kernel
theorem dX8_isIn_70 : decode cX8_isIn 70 = .ok (.iaload, 1) := by decide +kernel
theorem dX8_isIn_71 : decode cX8_isIn 71 = .ok (.bipush 60, 2) := by decide +kernel
theorem dX8_isIn_73 : decode cX8_isIn 73 = .ok (.if_icmp .ne 19, 3) := by decide +kernel
theorem dX8_isIn_76 : decode cX8_isIn 76 = .ok (.lload 9, 2) := by decide +kernel
theorem dX8_isIn_78 : decode cX8_isIn 78 = .ok (.lload 11, 2) := by decide +kernel
theorem dX8_isIn_80 : decode cX8_isIn 80 = .ok (.lcmp, 1) := by decide +kernel
theorem dX8_isIn_81 : decode cX8_isIn 81 = .ok (.ifCond .ge 7, 3) := by decide +kernel
theorem dX8_isIn_84 : decode cX8_isIn 84 = .ok (.iconst 1, 1) := by decide +kernel
theorem dX8_isIn_85 : decode cX8_isIn 85 = .ok (.goto 48, 3) := by decide +kernel
theorem dX8_isIn_88 : decode cX8_isIn 88 = .ok (.iconst 0, 1) := by decide +kernel
theorem dX8_isIn_89 : decode cX8_isIn 89 = .ok (.goto 44, 3) := by decide +kernel
theorem dX8_isIn_92 : decode cX8_isIn 92 = .ok (.aload_n 0, 1) := by decide +kernel
theorem dX8_isIn_93 : decode cX8_isIn 93 = .ok (.getfield 34, 3) := by decide +kernel
theorem dX8_isIn_96 : decode cX8_isIn 96 = .ok (.iload 8, 2) := by decide +kernel
theorem dX8_isIn_98 : decode cX8_isIn 98 = .ok (.iaload, 1) := by decide +kernel
theorem dX8_isIn_99 : decode cX8_isIn 99 = .ok (.bipush 62, 2) := by decide +kernel
theorem dX8_isIn_101 : decode cX8_isIn 101 = .ok (.if_icmp .ne 19, 3) := by decide +kernel
theorem dX8_isIn_104 : decode cX8_isIn 104 = .ok (.lload 9, 2) := by decide +kernel
theorem dX8_isIn_106 : decode cX8_isIn 106 = .ok (.lload 11, 2) := by decide +kernel
theorem dX8_isIn_108 : decode cX8_isIn 108 = .ok (.lcmp, 1) := by decide +kernel
theorem dX8_isIn_109 : decode cX8_isIn 109 = .ok (.ifCond .le 7, 3) := by decide +kernel
theorem dX8_isIn_112 : decode cX8_isIn 112 = .ok (.iconst 1, 1) := by decide +kernel
theorem dX8_isIn_113 : decode cX8_isIn 113 = .ok (.goto 20, 3) := by decide +kernel
theorem dX8_isIn_116 : decode cX8_isIn 116 = .ok (.iconst 0, 1) := by decide +kernel
theorem dX8_isIn_117 : decode cX8_isIn 117 = .ok (.goto 16, 3) := by decide +kernel
theorem dX8_isIn_120 : decode cX8_isIn 120 = .ok (.lload 9, 2) := by decide +kernel
theorem dX8_isIn_122 : decode cX8_isIn 122 = .ok (.lload 11, 2) := by decide +kernel
theorem dX8_isIn_124 : decode cX8_isIn 124 = .ok (.lcmp, 1) := by decide +kernel
theorem dX8_isIn_125 : decode cX8_isIn 125 = .ok (.ifCond .ne 7, 3) := by decide +kernel
theorem dX8_isIn_128 : decode cX8_isIn 128 = .ok (.iconst 1, 1) := by decide +kernel
theorem dX8_isIn_129 : decode cX8_isIn 129 = .ok (.goto 4, 3) := by decide +kernel
theorem dX8_isIn_132 : decode cX8_isIn 132 = .ok (.iconst 0, 1) := by decide +kernel
theorem dX8_isIn_133 : decode cX8_isIn 133 = .ok (.istore 6, 2) := by decide +kernel
theorem dX8_isIn_135 : decode cX8_isIn 135 = .ok (.iinc 7 1, 3) := by decide +kernel
theorem dX8_isIn_138 : decode cX8_isIn 138 = .ok (.goto (-132), 3) := by decide +kernel
theorem dX8_isIn_141 : decode cX8_isIn 141 = .ok (.iload 6, 2) := by decide +kernel
theorem dX8_isIn_143 : decode cX8_isIn 143 = .ok (.ireturn, 1) := by decide +kernel
theorem dX8_isWater_0 : decode cX8_isWater 0 = .ok (.iload_n 0, 1) := by decide +kernel
theorem dX8_isWater_1 : decode cX8_isWater 1 = .ok (.i2l, 1) := by decide +kernel
theorem dX8_isWater_2 : decode cX8_isWater 2 = .ok (.lconst 0, 1) := by decide +kernel
theorem dX8_isWater_3 : decode cX8_isWater 3 = .ok (.ldc2_w 156, 3) := by decide +kernel
theorem dX8_isWater_6 : decode cX8_isWater 6 = .ok (.invokestatic 64, 3) := by decide +kernel
theorem dX8_isWater_9 : decode cX8_isWater 9 = .ok (.ireturn, 1) := by decide +kernel
theorem dX8_isCulvert_0 : decode cX8_isCulvert 0 = .ok (.iload_n 1, 1) := by decide +kernel
theorem dX8_isCulvert_1 : decode cX8_isCulvert 1 = .ok (.ifCond .lt 15, 3) := by decide +kernel
theorem dX8_isCulvert_4 : decode cX8_isCulvert 4 = .ok (.iload_n 1, 1) := by decide +kernel
theorem dX8_isCulvert_5 : decode cX8_isCulvert 5 = .ok (.aload_n 0, 1) := by decide +kernel
theorem dX8_isCulvert_6 : decode cX8_isCulvert 6 = .ok (.getfield 113, 3) := by decide +kernel
theorem dX8_isCulvert_9 : decode cX8_isCulvert 9 = .ok (.if_icmp .ge 7, 3) := by decide +kernel
theorem dX8_isCulvert_12 : decode cX8_isCulvert 12 = .ok (.iconst 1, 1) := by decide +kernel
theorem dX8_isCulvert_13 : decode cX8_isCulvert 13 = .ok (.goto 4, 3) := by decide +kernel
theorem dX8_isCulvert_16 : decode cX8_isCulvert 16 = .ok (.iconst 0, 1) := by decide +kernel
theorem dX8_isCulvert_17 : decode cX8_isCulvert 17 = .ok (.ireturn, 1) := by decide +kernel
theorem dX8_state_0 : decode cX8_state 0 = .ok (.aload_n 0, 1) := by decide +kernel
theorem dX8_state_1 : decode cX8_state 1 = .ok (.iload_n 1, 1) := by decide +kernel
theorem dX8_state_2 : decode cX8_state 2 = .ok (.invokevirtual 158, 3) := by decide +kernel
theorem dX8_state_5 : decode cX8_state 5 = .ok (.ifCond .eq 25, 3) := by decide +kernel
theorem dX8_state_8 : decode cX8_state 8 = .ok (.iload_n 2, 1) := by decide +kernel
theorem dX8_state_9 : decode cX8_state 9 = .ok (.invokestatic 161, 3) := by decide +kernel
theorem dX8_state_12 : decode cX8_state 12 = .ok (.ifCond .eq 18, 3) := by decide +kernel
theorem dX8_state_15 : decode cX8_state 15 = .ok (.iload_n 3, 1) := by decide +kernel
theorem dX8_state_16 : decode cX8_state 16 = .ok (.invokestatic 161, 3) := by decide +kernel
theorem dX8_state_19 : decode cX8_state 19 = .ok (.ifCond .eq 11, 3) := by decide +kernel
theorem dX8_state_22 : decode cX8_state 22 = .ok (.iload 4, 2) := by decide +kernel
theorem dX8_state_24 : decode cX8_state 24 = .ok (.invokestatic 161, 3) := by decide +kernel
theorem dX8_state_27 : decode cX8_state 27 = .ok (.ifCond .ne 5, 3) := by decide +kernel
theorem dX8_state_30 : decode cX8_state 30 = .ok (.iconst (-1), 1) := by decide +kernel
theorem dX8_state_31 : decode cX8_state 31 = .ok (.ireturn, 1) := by decide +kernel
theorem dX8_state_32 : decode cX8_state 32 = .ok (.iconst 0, 1) := by decide +kernel
theorem dX8_state_33 : decode cX8_state 33 = .ok (.istore 5, 2) := by decide +kernel
theorem dX8_state_35 : decode cX8_state 35 = .ok (.iload 5, 2) := by decide +kernel
theorem dX8_state_37 : decode cX8_state 37 = .ok (.aload_n 0, 1) := by decide +kernel
theorem dX8_state_38 : decode cX8_state 38 = .ok (.getfield 149, 3) := by decide +kernel
theorem dX8_state_41 : decode cX8_state 41 = .ok (.if_icmp .ge 26, 3) := by decide +kernel
theorem dX8_state_44 : decode cX8_state 44 = .ok (.aload_n 0, 1) := by decide +kernel
theorem dX8_state_45 : decode cX8_state 45 = .ok (.iload 5, 2) := by decide +kernel
theorem dX8_state_47 : decode cX8_state 47 = .ok (.iload_n 1, 1) := by decide +kernel
theorem dX8_state_48 : decode cX8_state 48 = .ok (.iload_n 2, 1) := by decide +kernel
theorem dX8_state_49 : decode cX8_state 49 = .ok (.iload_n 3, 1) := by decide +kernel
theorem dX8_state_50 : decode cX8_state 50 = .ok (.iload 4, 2) := by decide +kernel
theorem dX8_state_52 : decode cX8_state 52 = .ok (.invokevirtual 164, 3) := by decide +kernel
theorem dX8_state_55 : decode cX8_state 55 = .ok (.ifCond .eq 6, 3) := by decide +kernel
theorem dX8_state_58 : decode cX8_state 58 = .ok (.iload 5, 2) := by decide +kernel
theorem dX8_state_60 : decode cX8_state 60 = .ok (.ireturn, 1) := by decide +kernel
theorem dX8_state_61 : decode cX8_state 61 = .ok (.iinc 5 1, 3) := by decide +kernel
theorem dX8_state_64 : decode cX8_state 64 = .ok (.goto (-29), 3) := by decide +kernel
theorem dX8_state_67 : decode cX8_state 67 = .ok (.iconst (-1), 1) := by decide +kernel
theorem dX8_state_68 : decode cX8_state 68 = .ok (.ireturn, 1) := by decide +kernel
theorem dX8_head_0 : decode cX8_head 0 = .ok (.aload_n 0, 1) := by decide +kernel
theorem dX8_head_1 : decode cX8_head 1 = .ok (.iload_n 1, 1) := by decide +kernel
theorem dX8_head_2 : decode cX8_head 2 = .ok (.invokevirtual 158, 3) := by decide +kernel
theorem dX8_head_5 : decode cX8_head 5 = .ok (.ifCond .eq 30, 3) := by decide +kernel
theorem dX8_head_8 : decode cX8_head 8 = .ok (.iload_n 2, 1) := by decide +kernel
theorem dX8_head_9 : decode cX8_head 9 = .ok (.ifCond .lt 26, 3) := by decide +kernel
theorem dX8_head_12 : decode cX8_head 12 = .ok (.iload_n 2, 1) := by decide +kernel
theorem dX8_head_13 : decode cX8_head 13 = .ok (.aload_n 0, 1) := by decide +kernel
theorem dX8_head_14 : decode cX8_head 14 = .ok (.getfield 149, 3) := by decide +kernel
theorem dX8_head_17 : decode cX8_head 17 = .ok (.if_icmp .ge 18, 3) := by decide +kernel
theorem dX8_head_20 : decode cX8_head 20 = .ok (.iload_n 3, 1) := by decide +kernel
theorem dX8_head_21 : decode cX8_head 21 = .ok (.invokestatic 161, 3) := by decide +kernel
theorem dX8_head_24 : decode cX8_head 24 = .ok (.ifCond .eq 11, 3) := by decide +kernel
theorem dX8_head_27 : decode cX8_head 27 = .ok (.iload 4, 2) := by decide +kernel
theorem dX8_head_29 : decode cX8_head 29 = .ok (.invokestatic 161, 3) := by decide +kernel
theorem dX8_head_32 : decode cX8_head 32 = .ok (.ifCond .ne 5, 3) := by decide +kernel
theorem dX8_head_35 : decode cX8_head 35 = .ok (.iconst (-1), 1) := by decide +kernel
theorem dX8_head_36 : decode cX8_head 36 = .ok (.ireturn, 1) := by decide +kernel
theorem dX8_head_37 : decode cX8_head 37 = .ok (.iconst 0, 1) := by decide +kernel
theorem dX8_head_38 : decode cX8_head 38 = .ok (.istore 5, 2) := by decide +kernel
theorem dX8_head_40 : decode cX8_head 40 = .ok (.iload 5, 2) := by decide +kernel
theorem dX8_head_42 : decode cX8_head 42 = .ok (.sipush 20000, 3) := by decide +kernel
theorem dX8_head_45 : decode cX8_head 45 = .ok (.if_icmp .gt 40, 3) := by decide +kernel
theorem dX8_head_48 : decode cX8_head 48 = .ok (.aload_n 0, 1) := by decide +kernel
theorem dX8_head_49 : decode cX8_head 49 = .ok (.iload_n 2, 1) := by decide +kernel
theorem dX8_head_50 : decode cX8_head 50 = .ok (.iload_n 1, 1) := by decide +kernel
theorem dX8_head_51 : decode cX8_head 51 = .ok (.iload 5, 2) := by decide +kernel
theorem dX8_head_53 : decode cX8_head 53 = .ok (.iload_n 3, 1) := by decide +kernel
theorem dX8_head_54 : decode cX8_head 54 = .ok (.iload 4, 2) := by decide +kernel
theorem dX8_head_56 : decode cX8_head 56 = .ok (.invokevirtual 164, 3) := by decide +kernel
theorem dX8_head_59 : decode cX8_head 59 = .ok (.ifCond .eq 20, 3) := by decide +kernel
theorem dX8_head_62 : decode cX8_head 62 = .ok (.aload_n 0, 1) := by decide +kernel
theorem dX8_head_63 : decode cX8_head 63 = .ok (.iload_n 1, 1) := by decide +kernel
theorem dX8_head_64 : decode cX8_head 64 = .ok (.iload 5, 2) := by decide +kernel
theorem dX8_head_66 : decode cX8_head 66 = .ok (.iload_n 3, 1) := by decide +kernel
theorem dX8_head_67 : decode cX8_head 67 = .ok (.iload 4, 2) := by decide +kernel
theorem dX8_head_69 : decode cX8_head 69 = .ok (.invokevirtual 168, 3) := by decide +kernel
theorem dX8_head_72 : decode cX8_head 72 = .ok (.iload_n 2, 1) := by decide +kernel
theorem dX8_head_73 : decode cX8_head 73 = .ok (.if_icmp .ne 6, 3) := by decide +kernel
theorem dX8_head_76 : decode cX8_head 76 = .ok (.iload 5, 2) := by decide +kernel
theorem dX8_head_78 : decode cX8_head 78 = .ok (.ireturn, 1) := by decide +kernel
theorem dX8_head_79 : decode cX8_head 79 = .ok (.iinc 5 1, 3) := by decide +kernel
theorem dX8_head_82 : decode cX8_head 82 = .ok (.goto (-42), 3) := by decide +kernel
theorem dX8_head_85 : decode cX8_head 85 = .ok (.iconst (-1), 1) := by decide +kernel
theorem dX8_head_86 : decode cX8_head 86 = .ok (.ireturn, 1) := by decide +kernel
theorem dX8_day_0 : decode cX8_day 0 = .ok (.lload_n 1, 1) := by decide +kernel
theorem dX8_day_1 : decode cX8_day 1 = .ok (.lconst 0, 1) := by decide +kernel
theorem dX8_day_2 : decode cX8_day 2 = .ok (.ldc2_w 172, 3) := by decide +kernel
theorem dX8_day_5 : decode cX8_day 5 = .ok (.invokestatic 64, 3) := by decide +kernel
theorem dX8_day_8 : decode cX8_day 8 = .ok (.ifCond .eq 13, 3) := by decide +kernel
theorem dX8_day_11 : decode cX8_day 11 = .ok (.aload_n 0, 1) := by decide +kernel
theorem dX8_day_12 : decode cX8_day 12 = .ok (.getfield 174, 3) := by decide +kernel
theorem dX8_day_15 : decode cX8_day 15 = .ok (.sipush 400, 3) := by decide +kernel
theorem dX8_day_18 : decode cX8_day 18 = .ok (.if_icmp .ne 5, 3) := by decide +kernel
theorem dX8_day_21 : decode cX8_day 21 = .ok (.iconst (-1), 1) := by decide +kernel
theorem dX8_day_22 : decode cX8_day 22 = .ok (.ireturn, 1) := by decide +kernel
theorem dX8_day_23 : decode cX8_day 23 = .ok (.aload_n 0, 1) := by decide +kernel
theorem dX8_day_24 : decode cX8_day 24 = .ok (.getfield 46, 3) := by decide +kernel
theorem dX8_day_27 : decode cX8_day 27 = .ok (.aload_n 0, 1) := by decide +kernel
theorem dX8_day_28 : decode cX8_day 28 = .ok (.getfield 174, 3) := by decide +kernel
theorem dX8_day_31 : decode cX8_day 31 = .ok (.lload_n 1, 1) := by decide +kernel
theorem dX8_day_32 : decode cX8_day 32 = .ok (.lastore, 1) := by decide +kernel
theorem dX8_day_33 : decode cX8_day 33 = .ok (.aload_n 0, 1) := by decide +kernel
theorem dX8_day_34 : decode cX8_day 34 = .ok (.dup, 1) := by decide +kernel
theorem dX8_day_35 : decode cX8_day 35 = .ok (.getfield 174, 3) := by decide +kernel
theorem dX8_day_38 : decode cX8_day 38 = .ok (.iconst 1, 1) := by decide +kernel
theorem dX8_day_39 : decode cX8_day 39 = .ok (.iadd, 1) := by decide +kernel
theorem dX8_day_40 : decode cX8_day 40 = .ok (.putfield 174, 3) := by decide +kernel
theorem dX8_day_43 : decode cX8_day 43 = .ok (.aload_n 0, 1) := by decide +kernel
theorem dX8_day_44 : decode cX8_day 44 = .ok (.iconst 0, 1) := by decide +kernel
theorem dX8_day_45 : decode cX8_day 45 = .ok (.putfield 177, 3) := by decide +kernel
theorem dX8_day_48 : decode cX8_day 48 = .ok (.aload_n 0, 1) := by decide +kernel
theorem dX8_day_49 : decode cX8_day 49 = .ok (.getfield 174, 3) := by decide +kernel
theorem dX8_day_52 : decode cX8_day 52 = .ok (.ireturn, 1) := by decide +kernel
theorem dX8_go_0 : decode cX8_go 0 = .ok (.lconst 0, 1) := by decide +kernel
theorem dX8_go_1 : decode cX8_go 1 = .ok (.lstore 5, 2) := by decide +kernel
theorem dX8_go_3 : decode cX8_go 3 = .ok (.iconst 0, 1) := by decide +kernel
theorem dX8_go_4 : decode cX8_go 4 = .ok (.istore 7, 2) := by decide +kernel
theorem dX8_go_6 : decode cX8_go 6 = .ok (.iconst 0, 1) := by decide +kernel
theorem dX8_go_7 : decode cX8_go 7 = .ok (.istore 8, 2) := by decide +kernel
theorem dX8_go_9 : decode cX8_go 9 = .ok (.iload 8, 2) := by decide +kernel
theorem dX8_go_11 : decode cX8_go 11 = .ok (.aload_n 0, 1) := by decide +kernel
theorem dX8_go_12 : decode cX8_go 12 = .ok (.getfield 174, 3) := by decide +kernel
theorem dX8_go_15 : decode cX8_go 15 = .ok (.if_icmp .ge 118, 3) := by decide +kernel
theorem dX8_go_18 : decode cX8_go 18 = .ok (.lload 5, 2) := by decide +kernel
theorem dX8_go_20 : decode cX8_go 20 = .ok (.aload_n 0, 1) := by decide +kernel
theorem dX8_go_21 : decode cX8_go 21 = .ok (.getfield 46, 3) := by decide +kernel
theorem dX8_go_24 : decode cX8_go 24 = .ok (.iload 8, 2) := by decide +kernel
theorem dX8_go_26 : decode cX8_go 26 = .ok (.laload, 1) := by decide +kernel
theorem dX8_go_27 : decode cX8_go 27 = .ok (.ladd, 1) := by decide +kernel
theorem dX8_go_28 : decode cX8_go 28 = .ok (.lstore 5, 2) := by decide +kernel
theorem dX8_go_30 : decode cX8_go 30 = .ok (.aload_n 0, 1) := by decide +kernel
theorem dX8_go_31 : decode cX8_go 31 = .ok (.getfield 53, 3) := by decide +kernel
theorem dX8_go_34 : decode cX8_go 34 = .ok (.iload 8, 2) := by decide +kernel
theorem dX8_go_36 : decode cX8_go 36 = .ok (.lload 5, 2) := by decide +kernel
theorem dX8_go_38 : decode cX8_go 38 = .ok (.lload_n 1, 1) := by decide +kernel
theorem dX8_go_39 : decode cX8_go 39 = .ok (.lcmp, 1) := by decide +kernel
theorem dX8_go_40 : decode cX8_go 40 = .ok (.ifCond .ge 8, 3) := by decide +kernel
theorem dX8_go_43 : decode cX8_go 43 = .ok (.lload 5, 2) := by decide +kernel
theorem dX8_go_45 : decode cX8_go 45 = .ok (.goto 4, 3) := by decide +kernel
theorem dX8_go_48 : decode cX8_go 48 = .ok (.lload_n 1, 1) := by decide +kernel
theorem dX8_go_49 : decode cX8_go 49 = .ok (.lastore, 1) := by decide +kernel
theorem dX8_go_50 : decode cX8_go 50 = .ok (.lload 5, 2) := by decide +kernel
theorem dX8_go_52 : decode cX8_go 52 = .ok (.aload_n 0, 1) := by decide +kernel
theorem dX8_go_53 : decode cX8_go 53 = .ok (.getfield 53, 3) := by decide +kernel
theorem dX8_go_56 : decode cX8_go 56 = .ok (.iload 8, 2) := by decide +kernel
theorem dX8_go_58 : decode cX8_go 58 = .ok (.laload, 1) := by decide +kernel
theorem dX8_go_59 : decode cX8_go 59 = .ok (.lsub, 1) := by decide +kernel
theorem dX8_go_60 : decode cX8_go 60 = .ok (.lstore 5, 2) := by decide +kernel
theorem dX8_go_62 : decode cX8_go 62 = .ok (.aload_n 0, 1) := by decide +kernel
theorem dX8_go_63 : decode cX8_go 63 = .ok (.getfield 56, 3) := by decide +kernel
theorem dX8_go_66 : decode cX8_go 66 = .ok (.iload 8, 2) := by decide +kernel
theorem dX8_go_68 : decode cX8_go 68 = .ok (.lload 5, 2) := by decide +kernel
theorem dX8_go_70 : decode cX8_go 70 = .ok (.lload_n 3, 1) := by decide +kernel
theorem dX8_go_71 : decode cX8_go 71 = .ok (.lcmp, 1) := by decide +kernel
theorem dX8_go_72 : decode cX8_go 72 = .ok (.ifCond .le 10, 3) := by decide +kernel
theorem dX8_go_75 : decode cX8_go 75 = .ok (.lload 5, 2) := by decide +kernel
theorem dX8_go_77 : decode cX8_go 77 = .ok (.lload_n 3, 1) := by decide +kernel
theorem dX8_go_78 : decode cX8_go 78 = .ok (.lsub, 1) := by decide +kernel
theorem dX8_go_79 : decode cX8_go 79 = .ok (.goto 4, 3) := by decide +kernel
theorem dX8_go_82 : decode cX8_go 82 = .ok (.lconst 0, 1) := by decide +kernel
theorem dX8_go_83 : decode cX8_go 83 = .ok (.lastore, 1) := by decide +kernel
theorem dX8_go_84 : decode cX8_go 84 = .ok (.lload 5, 2) := by decide +kernel
theorem dX8_go_86 : decode cX8_go 86 = .ok (.aload_n 0, 1) := by decide +kernel
theorem dX8_go_87 : decode cX8_go 87 = .ok (.getfield 56, 3) := by decide +kernel
theorem dX8_go_90 : decode cX8_go 90 = .ok (.iload 8, 2) := by decide +kernel
theorem dX8_go_92 : decode cX8_go 92 = .ok (.laload, 1) := by decide +kernel
theorem dX8_go_93 : decode cX8_go 93 = .ok (.lsub, 1) := by decide +kernel
theorem dX8_go_94 : decode cX8_go 94 = .ok (.lstore 5, 2) := by decide +kernel
theorem dX8_go_96 : decode cX8_go 96 = .ok (.aload_n 0, 1) := by decide +kernel
theorem dX8_go_97 : decode cX8_go 97 = .ok (.getfield 50, 3) := by decide +kernel
theorem dX8_go_100 : decode cX8_go 100 = .ok (.iload 8, 2) := by decide +kernel
theorem dX8_go_102 : decode cX8_go 102 = .ok (.lload 5, 2) := by decide +kernel
theorem dX8_go_104 : decode cX8_go 104 = .ok (.lastore, 1) := by decide +kernel
theorem dX8_go_105 : decode cX8_go 105 = .ok (.iload 7, 2) := by decide +kernel
theorem dX8_go_107 : decode cX8_go 107 = .ok (.aload_n 0, 1) := by decide +kernel
theorem dX8_go_108 : decode cX8_go 108 = .ok (.getfield 56, 3) := by decide +kernel
theorem dX8_go_111 : decode cX8_go 111 = .ok (.iload 8, 2) := by decide +kernel
theorem dX8_go_113 : decode cX8_go 113 = .ok (.laload, 1) := by decide +kernel
theorem dX8_go_114 : decode cX8_go 114 = .ok (.lconst 0, 1) := by decide +kernel
theorem dX8_go_115 : decode cX8_go 115 = .ok (.lcmp, 1) := by decide +kernel
theorem dX8_go_116 : decode cX8_go 116 = .ok (.ifCond .le 7, 3) := by decide +kernel
theorem dX8_go_119 : decode cX8_go 119 = .ok (.iconst 1, 1) := by decide +kernel
theorem dX8_go_120 : decode cX8_go 120 = .ok (.goto 4, 3) := by decide +kernel
theorem dX8_go_123 : decode cX8_go 123 = .ok (.iconst 0, 1) := by decide +kernel
theorem dX8_go_124 : decode cX8_go 124 = .ok (.iadd, 1) := by decide +kernel
theorem dX8_go_125 : decode cX8_go 125 = .ok (.istore 7, 2) := by decide +kernel
theorem dX8_go_127 : decode cX8_go 127 = .ok (.iinc 8 1, 3) := by decide +kernel
theorem dX8_go_130 : decode cX8_go 130 = .ok (.goto (-121), 3) := by decide +kernel
theorem dX8_go_133 : decode cX8_go 133 = .ok (.iload 7, 2) := by decide +kernel
theorem dX8_go_135 : decode cX8_go 135 = .ok (.ireturn, 1) := by decide +kernel
theorem dX8_run_0 : decode cX8_run 0 = .ok (.lload_n 1, 1) := by decide +kernel
theorem dX8_run_1 : decode cX8_run 1 = .ok (.lconst 0, 1) := by decide +kernel
theorem dX8_run_2 : decode cX8_run 2 = .ok (.ldc2_w 180, 3) := by decide +kernel
theorem dX8_run_5 : decode cX8_run 5 = .ok (.invokestatic 64, 3) := by decide +kernel
theorem dX8_run_8 : decode cX8_run 8 = .ok (.ifCond .eq 14, 3) := by decide +kernel
theorem dX8_run_11 : decode cX8_run 11 = .ok (.lload_n 3, 1) := by decide +kernel
theorem dX8_run_12 : decode cX8_run 12 = .ok (.lconst 0, 1) := by decide +kernel
theorem dX8_run_13 : decode cX8_run 13 = .ok (.ldc2_w 180, 3) := by decide +kernel
theorem dX8_run_16 : decode cX8_run 16 = .ok (.invokestatic 64, 3) := by decide +kernel
theorem dX8_run_19 : decode cX8_run 19 = .ok (.ifCond .ne 5, 3) := by decide +kernel
theorem dX8_run_22 : decode cX8_run 22 = .ok (.iconst (-1), 1) := by decide +kernel
theorem dX8_run_23 : decode cX8_run 23 = .ok (.ireturn, 1) := by decide +kernel
theorem dX8_run_24 : decode cX8_run 24 = .ok (.aload_n 0, 1) := by decide +kernel
theorem dX8_run_25 : decode cX8_run 25 = .ok (.iconst 1, 1) := by decide +kernel
theorem dX8_run_26 : decode cX8_run 26 = .ok (.putfield 177, 3) := by decide +kernel
theorem dX8_run_29 : decode cX8_run 29 = .ok (.aload_n 0, 1) := by decide +kernel
theorem dX8_run_30 : decode cX8_run 30 = .ok (.lload_n 1, 1) := by decide +kernel
theorem dX8_run_31 : decode cX8_run 31 = .ok (.lload_n 3, 1) := by decide +kernel
theorem dX8_run_32 : decode cX8_run 32 = .ok (.invokevirtual 182, 3) := by decide +kernel
theorem dX8_run_35 : decode cX8_run 35 = .ok (.ireturn, 1) := by decide +kernel
theorem dX8_behind_0 : decode cX8_behind 0 = .ok (.aload_n 0, 1) := by decide +kernel
theorem dX8_behind_1 : decode cX8_behind 1 = .ok (.getfield 177, 3) := by decide +kernel
theorem dX8_behind_4 : decode cX8_behind 4 = .ok (.ifCond .eq 15, 3) := by decide +kernel
theorem dX8_behind_7 : decode cX8_behind 7 = .ok (.iload_n 1, 1) := by decide +kernel
theorem dX8_behind_8 : decode cX8_behind 8 = .ok (.ifCond .lt 11, 3) := by decide +kernel
theorem dX8_behind_11 : decode cX8_behind 11 = .ok (.iload_n 1, 1) := by decide +kernel
theorem dX8_behind_12 : decode cX8_behind 12 = .ok (.aload_n 0, 1) := by decide +kernel
theorem dX8_behind_13 : decode cX8_behind 13 = .ok (.getfield 174, 3) := by decide +kernel
theorem dX8_behind_16 : decode cX8_behind 16 = .ok (.if_icmp .lt 7, 3) := by decide +kernel
theorem dX8_behind_19 : decode cX8_behind 19 = .ok (.ldc2_w 90, 3) := by decide +kernel
theorem dX8_behind_22 : decode cX8_behind 22 = .ok (.lreturn, 1) := by decide +kernel
theorem dX8_behind_23 : decode cX8_behind 23 = .ok (.lconst 0, 1) := by decide +kernel
theorem dX8_behind_24 : decode cX8_behind 24 = .ok (.lstore_n 3, 1) := by decide +kernel
theorem dX8_behind_25 : decode cX8_behind 25 = .ok (.iconst 0, 1) := by decide +kernel
theorem dX8_behind_26 : decode cX8_behind 26 = .ok (.istore 5, 2) := by decide +kernel
theorem dX8_behind_28 : decode cX8_behind 28 = .ok (.iload 5, 2) := by decide +kernel
theorem dX8_behind_30 : decode cX8_behind 30 = .ok (.iload_n 1, 1) := by decide +kernel
theorem dX8_behind_31 : decode cX8_behind 31 = .ok (.if_icmp .gt 19, 3) := by decide +kernel
theorem dX8_behind_34 : decode cX8_behind 34 = .ok (.lload_n 3, 1) := by decide +kernel
theorem dX8_behind_35 : decode cX8_behind 35 = .ok (.aload_n 0, 1) := by decide +kernel
theorem dX8_behind_36 : decode cX8_behind 36 = .ok (.getfield 56, 3) := by decide +kernel
theorem dX8_behind_39 : decode cX8_behind 39 = .ok (.iload 5, 2) := by decide +kernel
theorem dX8_behind_41 : decode cX8_behind 41 = .ok (.laload, 1) := by decide +kernel
theorem dX8_behind_42 : decode cX8_behind 42 = .ok (.ladd, 1) := by decide +kernel
theorem dX8_behind_43 : decode cX8_behind 43 = .ok (.lstore_n 3, 1) := by decide +kernel
theorem dX8_behind_44 : decode cX8_behind 44 = .ok (.iinc 5 1, 3) := by decide +kernel
theorem dX8_behind_47 : decode cX8_behind 47 = .ok (.goto (-19), 3) := by decide +kernel
theorem dX8_behind_50 : decode cX8_behind 50 = .ok (.iload_n 2, 1) := by decide +kernel
theorem dX8_behind_51 : decode cX8_behind 51 = .ok (.ifCond .ne 12, 3) := by decide +kernel
theorem dX8_behind_54 : decode cX8_behind 54 = .ok (.aload_n 0, 1) := by decide +kernel
theorem dX8_behind_55 : decode cX8_behind 55 = .ok (.getfield 50, 3) := by decide +kernel
theorem dX8_behind_58 : decode cX8_behind 58 = .ok (.iload_n 1, 1) := by decide +kernel
theorem dX8_behind_59 : decode cX8_behind 59 = .ok (.laload, 1) := by decide +kernel
theorem dX8_behind_60 : decode cX8_behind 60 = .ok (.goto 43, 3) := by decide +kernel
theorem dX8_behind_63 : decode cX8_behind 63 = .ok (.iload_n 2, 1) := by decide +kernel
theorem dX8_behind_64 : decode cX8_behind 64 = .ok (.iconst 1, 1) := by decide +kernel
theorem dX8_behind_65 : decode cX8_behind 65 = .ok (.if_icmp .ne 12, 3) := by decide +kernel
theorem dX8_behind_68 : decode cX8_behind 68 = .ok (.aload_n 0, 1) := by decide +kernel
theorem dX8_behind_69 : decode cX8_behind 69 = .ok (.getfield 53, 3) := by decide +kernel
theorem dX8_behind_72 : decode cX8_behind 72 = .ok (.iload_n 1, 1) := by decide +kernel
theorem dX8_behind_73 : decode cX8_behind 73 = .ok (.laload, 1) := by decide +kernel
theorem dX8_behind_74 : decode cX8_behind 74 = .ok (.goto 29, 3) := by decide +kernel
theorem dX8_behind_77 : decode cX8_behind 77 = .ok (.iload_n 2, 1) := by decide +kernel
theorem dX8_behind_78 : decode cX8_behind 78 = .ok (.iconst 2, 1) := by decide +kernel
theorem dX8_behind_79 : decode cX8_behind 79 = .ok (.if_icmp .ne 12, 3) := by decide +kernel
theorem dX8_behind_82 : decode cX8_behind 82 = .ok (.aload_n 0, 1) := by decide +kernel
theorem dX8_behind_83 : decode cX8_behind 83 = .ok (.getfield 56, 3) := by decide +kernel
theorem dX8_behind_86 : decode cX8_behind 86 = .ok (.iload_n 1, 1) := by decide +kernel
theorem dX8_behind_87 : decode cX8_behind 87 = .ok (.laload, 1) := by decide +kernel
theorem dX8_behind_88 : decode cX8_behind 88 = .ok (.goto 15, 3) := by decide +kernel
theorem dX8_behind_91 : decode cX8_behind 91 = .ok (.iload_n 2, 1) := by decide +kernel
theorem dX8_behind_92 : decode cX8_behind 92 = .ok (.iconst 3, 1) := by decide +kernel
theorem dX8_behind_93 : decode cX8_behind 93 = .ok (.if_icmp .ne 7, 3) := by decide +kernel
theorem dX8_behind_96 : decode cX8_behind 96 = .ok (.lload_n 3, 1) := by decide +kernel
theorem dX8_behind_97 : decode cX8_behind 97 = .ok (.goto 6, 3) := by decide +kernel
theorem dX8_behind_100 : decode cX8_behind 100 = .ok (.ldc2_w 90, 3) := by decide +kernel
theorem dX8_behind_103 : decode cX8_behind 103 = .ok (.lreturn, 1) := by decide +kernel
theorem dX8_room_0 : decode cX8_room 0 = .ok (.lload_n 1, 1) := by decide +kernel
theorem dX8_room_1 : decode cX8_room 1 = .ok (.lconst 0, 1) := by decide +kernel
theorem dX8_room_2 : decode cX8_room 2 = .ok (.ldc2_w 180, 3) := by decide +kernel
theorem dX8_room_5 : decode cX8_room 5 = .ok (.invokestatic 64, 3) := by decide +kernel
theorem dX8_room_8 : decode cX8_room 8 = .ok (.ifCond .eq 15, 3) := by decide +kernel
theorem dX8_room_11 : decode cX8_room 11 = .ok (.iload_n 3, 1) := by decide +kernel
theorem dX8_room_12 : decode cX8_room 12 = .ok (.i2l, 1) := by decide +kernel
theorem dX8_room_13 : decode cX8_room 13 = .ok (.lconst 0, 1) := by decide +kernel
theorem dX8_room_14 : decode cX8_room 14 = .ok (.ldc2_w 186, 3) := by decide +kernel
theorem dX8_room_17 : decode cX8_room 17 = .ok (.invokestatic 64, 3) := by decide +kernel
theorem dX8_room_20 : decode cX8_room 20 = .ok (.ifCond .ne 7, 3) := by decide +kernel
theorem dX8_room_23 : decode cX8_room 23 = .ok (.ldc2_w 90, 3) := by decide +kernel
theorem dX8_room_26 : decode cX8_room 26 = .ok (.lreturn, 1) := by decide +kernel
theorem dX8_room_27 : decode cX8_room 27 = .ok (.aload_n 0, 1) := by decide +kernel
theorem dX8_room_28 : decode cX8_room 28 = .ok (.iconst 0, 1) := by decide +kernel
theorem dX8_room_29 : decode cX8_room 29 = .ok (.putfield 177, 3) := by decide +kernel
theorem dX8_room_32 : decode cX8_room 32 = .ok (.lconst 0, 1) := by decide +kernel
theorem dX8_room_33 : decode cX8_room 33 = .ok (.lstore 4, 2) := by decide +kernel
theorem dX8_room_35 : decode cX8_room 35 = .ok (.ldc2_w 188, 3) := by decide +kernel
theorem dX8_room_38 : decode cX8_room 38 = .ok (.lstore 6, 2) := by decide +kernel
theorem dX8_room_40 : decode cX8_room 40 = .ok (.lload 4, 2) := by decide +kernel
theorem dX8_room_42 : decode cX8_room 42 = .ok (.lload 6, 2) := by decide +kernel
theorem dX8_room_44 : decode cX8_room 44 = .ok (.lcmp, 1) := by decide +kernel
theorem dX8_room_45 : decode cX8_room 45 = .ok (.ifCond .ge 41, 3) := by decide +kernel
theorem dX8_room_48 : decode cX8_room 48 = .ok (.lload 4, 2) := by decide +kernel
theorem dX8_room_50 : decode cX8_room 50 = .ok (.lload 6, 2) := by decide +kernel
theorem dX8_room_52 : decode cX8_room 52 = .ok (.ladd, 1) := by decide +kernel
theorem dX8_room_53 : decode cX8_room 53 = .ok (.ldc2_w 190, 3) := by decide +kernel
theorem dX8_room_56 : decode cX8_room 56 = .ok (.ldiv, 1) := by decide +kernel
theorem dX8_room_57 : decode cX8_room 57 = .ok (.lstore 8, 2) := by decide +kernel
theorem dX8_room_59 : decode cX8_room 59 = .ok (.aload_n 0, 1) := by decide +kernel
theorem dX8_room_60 : decode cX8_room 60 = .ok (.lload_n 1, 1) := by decide +kernel
theorem dX8_room_61 : decode cX8_room 61 = .ok (.lload 8, 2) := by decide +kernel
theorem dX8_room_63 : decode cX8_room 63 = .ok (.invokevirtual 182, 3) := by decide +kernel
theorem dX8_room_66 : decode cX8_room 66 = .ok (.iload_n 3, 1) := by decide +kernel
theorem dX8_room_67 : decode cX8_room 67 = .ok (.if_icmp .gt 10, 3) := by decide +kernel
theorem dX8_room_70 : decode cX8_room 70 = .ok (.lload 8, 2) := by decide +kernel
theorem dX8_room_72 : decode cX8_room 72 = .ok (.lstore 6, 2) := by decide +kernel
theorem dX8_room_74 : decode cX8_room 74 = .ok (.goto 9, 3) := by decide +kernel
theorem dX8_room_77 : decode cX8_room 77 = .ok (.lload 8, 2) := by decide +kernel
theorem dX8_room_79 : decode cX8_room 79 = .ok (.lconst 1, 1) := by decide +kernel
theorem dX8_room_80 : decode cX8_room 80 = .ok (.ladd, 1) := by decide +kernel
theorem dX8_room_81 : decode cX8_room 81 = .ok (.lstore 4, 2) := by decide +kernel
theorem dX8_room_83 : decode cX8_room 83 = .ok (.goto (-43), 3) := by decide +kernel
theorem dX8_room_86 : decode cX8_room 86 = .ok (.lload 4, 2) := by decide +kernel
theorem dX8_room_88 : decode cX8_room 88 = .ok (.lreturn, 1) := by decide +kernel
theorem dX8_way_0 : decode cX8_way 0 = .ok (.iload_n 1, 1) := by decide +kernel
theorem dX8_way_1 : decode cX8_way 1 = .ok (.i2l, 1) := by decide +kernel
theorem dX8_way_2 : decode cX8_way 2 = .ok (.ldc2_w 94, 3) := by decide +kernel
theorem dX8_way_5 : decode cX8_way 5 = .ok (.ldc2_w 70, 3) := by decide +kernel
theorem dX8_way_8 : decode cX8_way 8 = .ok (.invokestatic 64, 3) := by decide +kernel
theorem dX8_way_11 : decode cX8_way 11 = .ok (.ifCond .eq 12, 3) := by decide +kernel
theorem dX8_way_14 : decode cX8_way 14 = .ok (.aload_n 0, 1) := by decide +kernel
theorem dX8_way_15 : decode cX8_way 15 = .ok (.getfield 192, 3) := by decide +kernel
theorem dX8_way_18 : decode cX8_way 18 = .ok (.bipush 50, 2) := by decide +kernel
theorem dX8_way_20 : decode cX8_way 20 = .ok (.if_icmp .ne 5, 3) := by decide +kernel
theorem dX8_way_23 : decode cX8_way 23 = .ok (.iconst (-1), 1) := by decide +kernel
theorem dX8_way_24 : decode cX8_way 24 = .ok (.ireturn, 1) := by decide +kernel
theorem dX8_way_25 : decode cX8_way 25 = .ok (.aload_n 0, 1) := by decide +kernel
theorem dX8_way_26 : decode cX8_way 26 = .ok (.getfield 59, 3) := by decide +kernel
theorem dX8_way_29 : decode cX8_way 29 = .ok (.aload_n 0, 1) := by decide +kernel
theorem dX8_way_30 : decode cX8_way 30 = .ok (.getfield 192, 3) := by decide +kernel
theorem dX8_way_33 : decode cX8_way 33 = .ok (.iload_n 1, 1) := by decide +kernel
theorem dX8_way_34 : decode cX8_way 34 = .ok (.iastore, 1) := by decide +kernel
theorem dX8_way_35 : decode cX8_way 35 = .ok (.aload_n 0, 1) := by decide +kernel
theorem dX8_way_36 : decode cX8_way 36 = .ok (.dup, 1) := by decide +kernel
theorem dX8_way_37 : decode cX8_way 37 = .ok (.getfield 192, 3) := by decide +kernel
theorem dX8_way_40 : decode cX8_way 40 = .ok (.iconst 1, 1) := by decide +kernel
theorem dX8_way_41 : decode cX8_way 41 = .ok (.iadd, 1) := by decide +kernel
theorem dX8_way_42 : decode cX8_way 42 = .ok (.putfield 192, 3) := by decide +kernel
theorem dX8_way_45 : decode cX8_way 45 = .ok (.aload_n 0, 1) := by decide +kernel
theorem dX8_way_46 : decode cX8_way 46 = .ok (.getfield 192, 3) := by decide +kernel
theorem dX8_way_49 : decode cX8_way 49 = .ok (.ireturn, 1) := by decide +kernel
theorem dX8_stops_0 : decode cX8_stops 0 = .ok (.iconst 1, 1) := by decide +kernel
theorem dX8_stops_1 : decode cX8_stops 1 = .ok (.istore_n 1, 1) := by decide +kernel
theorem dX8_stops_2 : decode cX8_stops 2 = .ok (.iload_n 1, 1) := by decide +kernel
theorem dX8_stops_3 : decode cX8_stops 3 = .ok (.aload_n 0, 1) := by decide +kernel
theorem dX8_stops_4 : decode cX8_stops 4 = .ok (.getfield 192, 3) := by decide +kernel
theorem dX8_stops_7 : decode cX8_stops 7 = .ok (.if_icmp .ge 28, 3) := by decide +kernel
theorem dX8_stops_10 : decode cX8_stops 10 = .ok (.aload_n 0, 1) := by decide +kernel
theorem dX8_stops_11 : decode cX8_stops 11 = .ok (.getfield 59, 3) := by decide +kernel
theorem dX8_stops_14 : decode cX8_stops 14 = .ok (.iload_n 1, 1) := by decide +kernel
theorem dX8_stops_15 : decode cX8_stops 15 = .ok (.iaload, 1) := by decide +kernel
theorem dX8_stops_16 : decode cX8_stops 16 = .ok (.aload_n 0, 1) := by decide +kernel
theorem dX8_stops_17 : decode cX8_stops 17 = .ok (.getfield 59, 3) := by decide +kernel
theorem dX8_stops_20 : decode cX8_stops 20 = .ok (.iload_n 1, 1) := by decide +kernel
theorem dX8_stops_21 : decode cX8_stops 21 = .ok (.iconst 1, 1) := by decide +kernel
theorem dX8_stops_22 : decode cX8_stops 22 = .ok (.isub, 1) := by decide +kernel
theorem dX8_stops_23 : decode cX8_stops 23 = .ok (.iaload, 1) := by decide +kernel
theorem dX8_stops_24 : decode cX8_stops 24 = .ok (.if_icmp .lt 5, 3) := by decide +kernel
theorem dX8_stops_27 : decode cX8_stops 27 = .ok (.iload_n 1, 1) := by decide +kernel
theorem dX8_stops_28 : decode cX8_stops 28 = .ok (.ireturn, 1) := by decide +kernel
theorem dX8_stops_29 : decode cX8_stops 29 = .ok (.iinc 1 1, 3) := by decide +kernel
theorem dX8_stops_32 : decode cX8_stops 32 = .ok (.goto (-30), 3) := by decide +kernel
theorem dX8_stops_35 : decode cX8_stops 35 = .ok (.iconst (-1), 1) := by decide +kernel
theorem dX8_stops_36 : decode cX8_stops 36 = .ok (.ireturn, 1) := by decide +kernel
theorem dX8_count_0 : decode cX8_count 0 = .ok (.iload_n 1, 1) := by decide +kernel
theorem dX8_count_1 : decode cX8_count 1 = .ok (.tableswitch 78 0 6 #[43, 48, 53, 58, 63, 68, 73], 43) := by decide +kernel
theorem dX8_count_44 : decode cX8_count 44 = .ok (.aload_n 0, 1) := by decide +kernel
theorem dX8_count_45 : decode cX8_count 45 = .ok (.getfield 72, 3) := by decide +kernel
theorem dX8_count_48 : decode cX8_count 48 = .ok (.ireturn, 1) := by decide +kernel
theorem dX8_count_49 : decode cX8_count 49 = .ok (.aload_n 0, 1) := by decide +kernel
theorem dX8_count_50 : decode cX8_count 50 = .ok (.getfield 96, 3) := by decide +kernel
theorem dX8_count_53 : decode cX8_count 53 = .ok (.ireturn, 1) := by decide +kernel
theorem dX8_count_54 : decode cX8_count 54 = .ok (.aload_n 0, 1) := by decide +kernel
theorem dX8_count_55 : decode cX8_count 55 = .ok (.getfield 113, 3) := by decide +kernel
theorem dX8_count_58 : decode cX8_count 58 = .ok (.ireturn, 1) := by decide +kernel
theorem dX8_count_59 : decode cX8_count 59 = .ok (.aload_n 0, 1) := by decide +kernel
theorem dX8_count_60 : decode cX8_count 60 = .ok (.getfield 149, 3) := by decide +kernel
theorem dX8_count_63 : decode cX8_count 63 = .ok (.ireturn, 1) := by decide +kernel
theorem dX8_count_64 : decode cX8_count 64 = .ok (.aload_n 0, 1) := by decide +kernel
theorem dX8_count_65 : decode cX8_count 65 = .ok (.getfield 174, 3) := by decide +kernel
theorem dX8_count_68 : decode cX8_count 68 = .ok (.ireturn, 1) := by decide +kernel
theorem dX8_count_69 : decode cX8_count 69 = .ok (.aload_n 0, 1) := by decide +kernel
theorem dX8_count_70 : decode cX8_count 70 = .ok (.getfield 192, 3) := by decide +kernel
theorem dX8_count_73 : decode cX8_count 73 = .ok (.ireturn, 1) := by decide +kernel
theorem dX8_count_74 : decode cX8_count 74 = .ok (.aload_n 0, 1) := by decide +kernel
theorem dX8_count_75 : decode cX8_count 75 = .ok (.getfield 120, 3) := by decide +kernel
theorem dX8_count_78 : decode cX8_count 78 = .ok (.ireturn, 1) := by decide +kernel
theorem dX8_count_79 : decode cX8_count 79 = .ok (.iconst (-1), 1) := by decide +kernel
theorem dX8_count_80 : decode cX8_count 80 = .ok (.ireturn, 1) := by decide +kernel
