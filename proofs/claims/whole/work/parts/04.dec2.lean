theorem dX12_init_0 : decode cX12_init 0 = .ok (.aload_n 0, 1) := by decide +kernel
theorem dX12_init_1 : decode cX12_init 1 = .ok (.invokespecial 1, 3) := by decide +kernel
theorem dX12_init_4 : decode cX12_init 4 = .ok (.aload_n 0, 1) := by decide +kernel
theorem dX12_init_5 : decode cX12_init 5 = .ok (.bipush 7, 2) := by decide +kernel
theorem dX12_init_7 : decode cX12_init 7 = .ok (.newarray .int, 2) := by decide +kernel
theorem dX12_init_9 : decode cX12_init 9 = .ok (.putfield 7, 3) := by decide +kernel
theorem dX12_init_12 : decode cX12_init 12 = .ok (.aload_n 0, 1) := by decide +kernel
theorem dX12_init_13 : decode cX12_init 13 = .ok (.sipush 626, 3) := by decide +kernel
theorem dX12_init_16 : decode cX12_init 16 = .ok (.newarray .int, 2) := by decide +kernel
theorem dX12_init_18 : decode cX12_init 18 = .ok (.putfield 13, 3) := by decide +kernel
theorem dX12_init_21 : decode cX12_init 21 = .ok (.aload_n 0, 1) := by decide +kernel
theorem dX12_init_22 : decode cX12_init 22 = .ok (.sipush 5008, 3) := by decide +kernel
theorem dX12_init_25 : decode cX12_init 25 = .ok (.newarray .int, 2) := by decide +kernel
theorem dX12_init_27 : decode cX12_init 27 = .ok (.putfield 16, 3) := by decide +kernel
theorem dX12_init_30 : decode cX12_init 30 = .ok (.aload_n 0, 1) := by decide +kernel
theorem dX12_init_31 : decode cX12_init 31 = .ok (.bipush 8, 2) := by decide +kernel
theorem dX12_init_33 : decode cX12_init 33 = .ok (.newarray .int, 2) := by decide +kernel
theorem dX12_init_35 : decode cX12_init 35 = .ok (.putfield 19, 3) := by decide +kernel
theorem dX12_init_38 : decode cX12_init 38 = .ok (.aload_n 0, 1) := by decide +kernel
theorem dX12_init_39 : decode cX12_init 39 = .ok (.sipush 1252, 3) := by decide +kernel
theorem dX12_init_42 : decode cX12_init 42 = .ok (.newarray .int, 2) := by decide +kernel
theorem dX12_init_44 : decode cX12_init 44 = .ok (.putfield 22, 3) := by decide +kernel
theorem dX12_init_47 : decode cX12_init 47 = .ok (.aload_n 0, 1) := by decide +kernel
theorem dX12_init_48 : decode cX12_init 48 = .ok (.iconst 2, 1) := by decide +kernel
theorem dX12_init_49 : decode cX12_init 49 = .ok (.newarray .boolean, 2) := by decide +kernel
theorem dX12_init_51 : decode cX12_init 51 = .ok (.putfield 25, 3) := by decide +kernel
theorem dX12_init_54 : decode cX12_init 54 = .ok (.aload_n 0, 1) := by decide +kernel
theorem dX12_init_55 : decode cX12_init 55 = .ok (.bipush 60, 2) := by decide +kernel
theorem dX12_init_57 : decode cX12_init 57 = .ok (.newarray .long, 2) := by decide +kernel
theorem dX12_init_59 : decode cX12_init 59 = .ok (.putfield 29, 3) := by decide +kernel
theorem dX12_init_62 : decode cX12_init 62 = .ok (.aload_n 0, 1) := by decide +kernel
theorem dX12_init_63 : decode cX12_init 63 = .ok (.bipush 14, 2) := by decide +kernel
theorem dX12_init_65 : decode cX12_init 65 = .ok (.newarray .long, 2) := by decide +kernel
theorem dX12_init_67 : decode cX12_init 67 = .ok (.putfield 33, 3) := by decide +kernel
theorem dX12_init_70 : decode cX12_init 70 = .ok (.aload_n 0, 1) := by decide +kernel
theorem dX12_init_71 : decode cX12_init 71 = .ok (.bipush 60, 2) := by decide +kernel
theorem dX12_init_73 : decode cX12_init 73 = .ok (.newarray .long, 2) := by decide +kernel
theorem dX12_init_75 : decode cX12_init 75 = .ok (.putfield 36, 3) := by decide +kernel
theorem dX12_init_78 : decode cX12_init 78 = .ok (.aload_n 0, 1) := by decide +kernel
theorem dX12_init_79 : decode cX12_init 79 = .ok (.bipush 60, 2) := by decide +kernel
theorem dX12_init_81 : decode cX12_init 81 = .ok (.newarray .long, 2) := by decide +kernel
theorem dX12_init_83 : decode cX12_init 83 = .ok (.putfield 39, 3) := by decide +kernel
theorem dX12_init_86 : decode cX12_init 86 = .ok (.aload_n 0, 1) := by decide +kernel
theorem dX12_init_87 : decode cX12_init 87 = .ok (.sipush 602, 3) := by decide +kernel
theorem dX12_init_90 : decode cX12_init 90 = .ok (.newarray .int, 2) := by decide +kernel
theorem dX12_init_92 : decode cX12_init 92 = .ok (.putfield 42, 3) := by decide +kernel
theorem dX12_init_95 : decode cX12_init 95 = .ok (.aload_n 0, 1) := by decide +kernel
theorem dX12_init_96 : decode cX12_init 96 = .ok (.bipush 91, 2) := by decide +kernel
theorem dX12_init_98 : decode cX12_init 98 = .ok (.newarray .long, 2) := by decide +kernel
theorem dX12_init_100 : decode cX12_init 100 = .ok (.putfield 45, 3) := by decide +kernel
theorem dX12_init_103 : decode cX12_init 103 = .ok (.aload_n 0, 1) := by decide +kernel
theorem dX12_init_104 : decode cX12_init 104 = .ok (.sipush 450, 3) := by decide +kernel
theorem dX12_init_107 : decode cX12_init 107 = .ok (.newarray .long, 2) := by decide +kernel
theorem dX12_init_109 : decode cX12_init 109 = .ok (.putfield 48, 3) := by decide +kernel
theorem dX12_init_112 : decode cX12_init 112 = .ok (.aload_n 0, 1) := by decide +kernel
theorem dX12_init_113 : decode cX12_init 113 = .ok (.iconst 5, 1) := by decide +kernel
theorem dX12_init_114 : decode cX12_init 114 = .ok (.newarray .int, 2) := by decide +kernel
theorem dX12_init_116 : decode cX12_init 116 = .ok (.putfield 51, 3) := by decide +kernel
theorem dX12_init_119 : decode cX12_init 119 = .ok (.aload_n 0, 1) := by decide +kernel
theorem dX12_init_120 : decode cX12_init 120 = .ok (.sipush 720, 3) := by decide +kernel
theorem dX12_init_123 : decode cX12_init 123 = .ok (.newarray .long, 2) := by decide +kernel
theorem dX12_init_125 : decode cX12_init 125 = .ok (.putfield 54, 3) := by decide +kernel
theorem dX12_init_128 : decode cX12_init 128 = .ok (.aload_n 0, 1) := by decide +kernel
theorem dX12_init_129 : decode cX12_init 129 = .ok (.bipush 8, 2) := by decide +kernel
theorem dX12_init_131 : decode cX12_init 131 = .ok (.newarray .int, 2) := by decide +kernel
theorem dX12_init_133 : decode cX12_init 133 = .ok (.putfield 57, 3) := by decide +kernel
theorem dX12_init_136 : decode cX12_init 136 = .ok (.aload_n 0, 1) := by decide +kernel
theorem dX12_init_137 : decode cX12_init 137 = .ok (.sipush 400, 3) := by decide +kernel
theorem dX12_init_140 : decode cX12_init 140 = .ok (.newarray .byte, 2) := by decide +kernel
theorem dX12_init_142 : decode cX12_init 142 = .ok (.putfield 60, 3) := by decide +kernel
theorem dX12_init_145 : decode cX12_init 145 = .ok (.aload_n 0, 1) := by decide +kernel
theorem dX12_init_146 : decode cX12_init 146 = .ok (.iconst (-1), 1) := by decide +kernel
theorem dX12_init_147 : decode cX12_init 147 = .ok (.putfield 64, 3) := by decide +kernel
theorem dX12_init_150 : decode cX12_init 150 = .ok (.aload_n 0, 1) := by decide +kernel
theorem dX12_init_151 : decode cX12_init 151 = .ok (.bipush 13, 2) := by decide +kernel
theorem dX12_init_153 : decode cX12_init 153 = .ok (.newarray .int, 2) := by decide +kernel
theorem dX12_init_155 : decode cX12_init 155 = .ok (.putfield 68, 3) := by decide +kernel
theorem dX12_init_158 : decode cX12_init 158 = .ok (.aload_n 0, 1) := by decide +kernel
theorem dX12_init_159 : decode cX12_init 159 = .ok (.iconst 4, 1) := by decide +kernel
theorem dX12_init_160 : decode cX12_init 160 = .ok (.newarray .int, 2) := by decide +kernel
theorem dX12_init_162 : decode cX12_init 162 = .ok (.putfield 71, 3) := by decide +kernel
theorem dX12_init_165 : decode cX12_init 165 = .ok (.aload_n 0, 1) := by decide +kernel
theorem dX12_init_166 : decode cX12_init 166 = .ok (.bipush 8, 2) := by decide +kernel
theorem dX12_init_168 : decode cX12_init 168 = .ok (.newarray .int, 2) := by decide +kernel
theorem dX12_init_170 : decode cX12_init 170 = .ok (.putfield 74, 3) := by decide +kernel
theorem dX12_init_173 : decode cX12_init 173 = .ok (.aload_n 0, 1) := by decide +kernel
theorem dX12_init_174 : decode cX12_init 174 = .ok (.bipush 8, 2) := by decide +kernel
theorem dX12_init_176 : decode cX12_init 176 = .ok (.newarray .int, 2) := by decide +kernel
theorem dX12_init_178 : decode cX12_init 178 = .ok (.putfield 77, 3) := by decide +kernel
theorem dX12_init_181 : decode cX12_init 181 = .ok (.iconst 0, 1) := by decide +kernel
theorem dX12_init_182 : decode cX12_init 182 = .ok (.istore_n 1, 1) := by decide +kernel
theorem dX12_init_183 : decode cX12_init 183 = .ok (.iload_n 1, 1) := by decide +kernel
theorem dX12_init_184 : decode cX12_init 184 = .ok (.bipush 8, 2) := by decide +kernel
theorem dX12_init_186 : decode cX12_init 186 = .ok (.if_icmp .ge 21, 3) := by decide +kernel
theorem dX12_init_189 : decode cX12_init 189 = .ok (.aload_n 0, 1) := by decide +kernel
theorem dX12_init_190 : decode cX12_init 190 = .ok (.getfield 13, 3) := by decide +kernel
theorem dX12_init_193 : decode cX12_init 193 = .ok (.bipush 14, 2) := by decide +kernel
theorem dX12_init_195 : decode cX12_init 195 = .ok (.iload_n 1, 1) := by decide +kernel
theorem dX12_init_196 : decode cX12_init 196 = .ok (.imul, 1) := by decide +kernel
theorem dX12_init_197 : decode cX12_init 197 = .ok (.iconst 1, 1) := by decide +kernel
theorem dX12_init_198 : decode cX12_init 198 = .ok (.iadd, 1) := by decide +kernel
theorem dX12_init_199 : decode cX12_init 199 = .ok (.iconst 1, 1) := by decide +kernel
theorem dX12_init_200 : decode cX12_init 200 = .ok (.iastore, 1) := by decide +kernel
theorem dX12_init_201 : decode cX12_init 201 = .ok (.iinc 1 1, 3) := by decide +kernel
theorem dX12_init_204 : decode cX12_init 204 = .ok (.goto (-21), 3) := by decide +kernel
theorem dX12_init_207 : decode cX12_init 207 = .ok (.aload_n 0, 1) := by decide +kernel
theorem dX12_init_208 : decode cX12_init 208 = .ok (.invokevirtual 80, 3) := by decide +kernel
theorem dX12_init_211 : decode cX12_init 211 = .ok (.return_, 1) := by decide +kernel
theorem dX12_in_0 : decode cX12_in 0 = .ok (.lload_n 0, 1) := by decide +kernel
theorem dX12_in_1 : decode cX12_in 1 = .ok (.lload_n 2, 1) := by decide +kernel
theorem dX12_in_2 : decode cX12_in 2 = .ok (.lcmp, 1) := by decide +kernel
theorem dX12_in_3 : decode cX12_in 3 = .ok (.ifCond .lt 14, 3) := by decide +kernel
theorem dX12_in_6 : decode cX12_in 6 = .ok (.lload_n 0, 1) := by decide +kernel
theorem dX12_in_7 : decode cX12_in 7 = .ok (.lload 4, 2) := by decide +kernel
theorem dX12_in_9 : decode cX12_in 9 = .ok (.lcmp, 1) := by decide +kernel
theorem dX12_in_10 : decode cX12_in 10 = .ok (.ifCond .gt 7, 3) := by decide +kernel
theorem dX12_in_13 : decode cX12_in 13 = .ok (.iconst 1, 1) := by decide +kernel
theorem dX12_in_14 : decode cX12_in 14 = .ok (.goto 4, 3) := by decide +kernel
theorem dX12_in_17 : decode cX12_in 17 = .ok (.iconst 0, 1) := by decide +kernel
theorem dX12_in_18 : decode cX12_in 18 = .ok (.ireturn, 1) := by decide +kernel
theorem dX12_size_0 : decode cX12_size 0 = .ok (.lload_n 0, 1) := by decide +kernel
theorem dX12_size_1 : decode cX12_size 1 = .ok (.lconst 0, 1) := by decide +kernel
theorem dX12_size_2 : decode cX12_size 2 = .ok (.lcmp, 1) := by decide +kernel
theorem dX12_size_3 : decode cX12_size 3 = .ok (.ifCond .ge 8, 3) := by decide +kernel
theorem dX12_size_6 : decode cX12_size 6 = .ok (.lload_n 0, 1) := by decide +kernel
theorem dX12_size_7 : decode cX12_size 7 = .ok (.lneg, 1) := by decide +kernel
theorem dX12_size_8 : decode cX12_size 8 = .ok (.goto 4, 3) := by decide +kernel
theorem dX12_size_11 : decode cX12_size 11 = .ok (.lload_n 0, 1) := by decide +kernel
theorem dX12_size_12 : decode cX12_size 12 = .ok (.lreturn, 1) := by decide +kernel
theorem dX12_tell_0 : decode cX12_tell 0 = .ok (.aload_n 0, 1) := by decide +kernel
theorem dX12_tell_1 : decode cX12_tell 1 = .ok (.iconst 0, 1) := by decide +kernel
theorem dX12_tell_2 : decode cX12_tell 2 = .ok (.putfield 86, 3) := by decide +kernel
theorem dX12_tell_5 : decode cX12_tell 5 = .ok (.iload_n 1, 1) := by decide +kernel
theorem dX12_tell_6 : decode cX12_tell 6 = .ok (.ireturn, 1) := by decide +kernel
theorem dX12_refuse_0 : decode cX12_refuse 0 = .ok (.aload_n 0, 1) := by decide +kernel
theorem dX12_refuse_1 : decode cX12_refuse 1 = .ok (.iload_n 1, 1) := by decide +kernel
theorem dX12_refuse_2 : decode cX12_refuse 2 = .ok (.putfield 86, 3) := by decide +kernel
theorem dX12_refuse_5 : decode cX12_refuse 5 = .ok (.aload_n 0, 1) := by decide +kernel
theorem dX12_refuse_6 : decode cX12_refuse 6 = .ok (.getfield 7, 3) := by decide +kernel
theorem dX12_refuse_9 : decode cX12_refuse 9 = .ok (.iload_n 1, 1) := by decide +kernel
theorem dX12_refuse_10 : decode cX12_refuse 10 = .ok (.ineg, 1) := by decide +kernel
theorem dX12_refuse_11 : decode cX12_refuse 11 = .ok (.dup2, 1) := by decide +kernel
theorem dX12_refuse_12 : decode cX12_refuse 12 = .ok (.iaload, 1) := by decide +kernel
theorem dX12_refuse_13 : decode cX12_refuse 13 = .ok (.iconst 1, 1) := by decide +kernel
theorem dX12_refuse_14 : decode cX12_refuse 14 = .ok (.iadd, 1) := by decide +kernel
theorem dX12_refuse_15 : decode cX12_refuse 15 = .ok (.iastore, 1) := by decide +kernel
theorem dX12_refuse_16 : decode cX12_refuse 16 = .ok (.iload_n 1, 1) := by decide +kernel
theorem dX12_refuse_17 : decode cX12_refuse 17 = .ok (.ireturn, 1) := by decide +kernel
theorem dX12_copy_0 : decode cX12_copy 0 = .ok (.iconst 0, 1) := by decide +kernel
theorem dX12_copy_1 : decode cX12_copy 1 = .ok (.istore 4, 2) := by decide +kernel
theorem dX12_copy_3 : decode cX12_copy 3 = .ok (.iload 4, 2) := by decide +kernel
theorem dX12_copy_5 : decode cX12_copy 5 = .ok (.sipush 626, 3) := by decide +kernel
theorem dX12_copy_8 : decode cX12_copy 8 = .ok (.if_icmp .ge 21, 3) := by decide +kernel
theorem dX12_copy_11 : decode cX12_copy 11 = .ok (.aload_n 2, 1) := by decide +kernel
theorem dX12_copy_12 : decode cX12_copy 12 = .ok (.iload_n 3, 1) := by decide +kernel
theorem dX12_copy_13 : decode cX12_copy 13 = .ok (.iload 4, 2) := by decide +kernel
theorem dX12_copy_15 : decode cX12_copy 15 = .ok (.iadd, 1) := by decide +kernel
theorem dX12_copy_16 : decode cX12_copy 16 = .ok (.aload_n 0, 1) := by decide +kernel
theorem dX12_copy_17 : decode cX12_copy 17 = .ok (.iload_n 1, 1) := by decide +kernel
theorem dX12_copy_18 : decode cX12_copy 18 = .ok (.iload 4, 2) := by decide +kernel
theorem dX12_copy_20 : decode cX12_copy 20 = .ok (.iadd, 1) := by decide +kernel
theorem dX12_copy_21 : decode cX12_copy 21 = .ok (.iaload, 1) := by decide +kernel
theorem dX12_copy_22 : decode cX12_copy 22 = .ok (.iastore, 1) := by decide +kernel
theorem dX12_copy_23 : decode cX12_copy 23 = .ok (.iinc 4 1, 3) := by decide +kernel
theorem dX12_copy_26 : decode cX12_copy 26 = .ok (.goto (-23), 3) := by decide +kernel
theorem dX12_copy_29 : decode cX12_copy 29 = .ok (.return_, 1) := by decide +kernel
theorem dX12_remember_0 : decode cX12_remember 0 = .ok (.aload_n 0, 1) := by decide +kernel
theorem dX12_remember_1 : decode cX12_remember 1 = .ok (.getfield 89, 3) := by decide +kernel
theorem dX12_remember_4 : decode cX12_remember 4 = .ok (.bipush 8, 2) := by decide +kernel
theorem dX12_remember_6 : decode cX12_remember 6 = .ok (.if_icmp .ne 72, 3) := by decide +kernel
theorem dX12_remember_9 : decode cX12_remember 9 = .ok (.iconst 0, 1) := by decide +kernel
theorem dX12_remember_10 : decode cX12_remember 10 = .ok (.istore_n 2, 1) := by decide +kernel
theorem dX12_remember_11 : decode cX12_remember 11 = .ok (.iload_n 2, 1) := by decide +kernel
theorem dX12_remember_12 : decode cX12_remember 12 = .ok (.sipush 4382, 3) := by decide +kernel
theorem dX12_remember_15 : decode cX12_remember 15 = .ok (.if_icmp .ge 25, 3) := by decide +kernel
theorem dX12_remember_18 : decode cX12_remember 18 = .ok (.aload_n 0, 1) := by decide +kernel
theorem dX12_remember_19 : decode cX12_remember 19 = .ok (.getfield 16, 3) := by decide +kernel
theorem dX12_remember_22 : decode cX12_remember 22 = .ok (.iload_n 2, 1) := by decide +kernel
theorem dX12_remember_23 : decode cX12_remember 23 = .ok (.aload_n 0, 1) := by decide +kernel
theorem dX12_remember_24 : decode cX12_remember 24 = .ok (.getfield 16, 3) := by decide +kernel
theorem dX12_remember_27 : decode cX12_remember 27 = .ok (.iload_n 2, 1) := by decide +kernel
theorem dX12_remember_28 : decode cX12_remember 28 = .ok (.sipush 626, 3) := by decide +kernel
theorem dX12_remember_31 : decode cX12_remember 31 = .ok (.iadd, 1) := by decide +kernel
theorem dX12_remember_32 : decode cX12_remember 32 = .ok (.iaload, 1) := by decide +kernel
theorem dX12_remember_33 : decode cX12_remember 33 = .ok (.iastore, 1) := by decide +kernel
theorem dX12_remember_34 : decode cX12_remember 34 = .ok (.iinc 2 1, 3) := by decide +kernel
theorem dX12_remember_37 : decode cX12_remember 37 = .ok (.goto (-26), 3) := by decide +kernel
theorem dX12_remember_40 : decode cX12_remember 40 = .ok (.iconst 0, 1) := by decide +kernel
theorem dX12_remember_41 : decode cX12_remember 41 = .ok (.istore_n 2, 1) := by decide +kernel
theorem dX12_remember_42 : decode cX12_remember 42 = .ok (.iload_n 2, 1) := by decide +kernel
theorem dX12_remember_43 : decode cX12_remember 43 = .ok (.bipush 7, 2) := by decide +kernel
theorem dX12_remember_45 : decode cX12_remember 45 = .ok (.if_icmp .ge 23, 3) := by decide +kernel
theorem dX12_remember_48 : decode cX12_remember 48 = .ok (.aload_n 0, 1) := by decide +kernel
theorem dX12_remember_49 : decode cX12_remember 49 = .ok (.getfield 19, 3) := by decide +kernel
theorem dX12_remember_52 : decode cX12_remember 52 = .ok (.iload_n 2, 1) := by decide +kernel
theorem dX12_remember_53 : decode cX12_remember 53 = .ok (.aload_n 0, 1) := by decide +kernel
theorem dX12_remember_54 : decode cX12_remember 54 = .ok (.getfield 19, 3) := by decide +kernel
theorem dX12_remember_57 : decode cX12_remember 57 = .ok (.iload_n 2, 1) := by decide +kernel
theorem dX12_remember_58 : decode cX12_remember 58 = .ok (.iconst 1, 1) := by decide +kernel
theorem dX12_remember_59 : decode cX12_remember 59 = .ok (.iadd, 1) := by decide +kernel
theorem dX12_remember_60 : decode cX12_remember 60 = .ok (.iaload, 1) := by decide +kernel
theorem dX12_remember_61 : decode cX12_remember 61 = .ok (.iastore, 1) := by decide +kernel
theorem dX12_remember_62 : decode cX12_remember 62 = .ok (.iinc 2 1, 3) := by decide +kernel
theorem dX12_remember_65 : decode cX12_remember 65 = .ok (.goto (-23), 3) := by decide +kernel
theorem dX12_remember_68 : decode cX12_remember 68 = .ok (.aload_n 0, 1) := by decide +kernel
theorem dX12_remember_69 : decode cX12_remember 69 = .ok (.dup, 1) := by decide +kernel
theorem dX12_remember_70 : decode cX12_remember 70 = .ok (.getfield 89, 3) := by decide +kernel
theorem dX12_remember_73 : decode cX12_remember 73 = .ok (.iconst 1, 1) := by decide +kernel
theorem dX12_remember_74 : decode cX12_remember 74 = .ok (.isub, 1) := by decide +kernel
theorem dX12_remember_75 : decode cX12_remember 75 = .ok (.putfield 89, 3) := by decide +kernel
theorem dX12_remember_78 : decode cX12_remember 78 = .ok (.aload_n 0, 1) := by decide +kernel
theorem dX12_remember_79 : decode cX12_remember 79 = .ok (.getfield 13, 3) := by decide +kernel
theorem dX12_remember_82 : decode cX12_remember 82 = .ok (.iconst 0, 1) := by decide +kernel
theorem dX12_remember_83 : decode cX12_remember 83 = .ok (.aload_n 0, 1) := by decide +kernel
theorem dX12_remember_84 : decode cX12_remember 84 = .ok (.getfield 16, 3) := by decide +kernel
theorem dX12_remember_87 : decode cX12_remember 87 = .ok (.sipush 626, 3) := by decide +kernel
theorem dX12_remember_90 : decode cX12_remember 90 = .ok (.aload_n 0, 1) := by decide +kernel
theorem dX12_remember_91 : decode cX12_remember 91 = .ok (.getfield 89, 3) := by decide +kernel
theorem dX12_remember_94 : decode cX12_remember 94 = .ok (.imul, 1) := by decide +kernel
theorem dX12_remember_95 : decode cX12_remember 95 = .ok (.invokestatic 92, 3) := by decide +kernel
theorem dX12_remember_98 : decode cX12_remember 98 = .ok (.aload_n 0, 1) := by decide +kernel
theorem dX12_remember_99 : decode cX12_remember 99 = .ok (.getfield 19, 3) := by decide +kernel
theorem dX12_remember_102 : decode cX12_remember 102 = .ok (.aload_n 0, 1) := by decide +kernel
theorem dX12_remember_103 : decode cX12_remember 103 = .ok (.getfield 89, 3) := by decide +kernel
theorem dX12_remember_106 : decode cX12_remember 106 = .ok (.iload_n 1, 1) := by decide +kernel
theorem dX12_remember_107 : decode cX12_remember 107 = .ok (.iastore, 1) := by decide +kernel
theorem dX12_remember_108 : decode cX12_remember 108 = .ok (.aload_n 0, 1) := by decide +kernel
theorem dX12_remember_109 : decode cX12_remember 109 = .ok (.dup, 1) := by decide +kernel
theorem dX12_remember_110 : decode cX12_remember 110 = .ok (.getfield 89, 3) := by decide +kernel
theorem dX12_remember_113 : decode cX12_remember 113 = .ok (.iconst 1, 1) := by decide +kernel
theorem dX12_remember_114 : decode cX12_remember 114 = .ok (.iadd, 1) := by decide +kernel
theorem dX12_remember_115 : decode cX12_remember 115 = .ok (.putfield 89, 3) := by decide +kernel
theorem dX12_remember_118 : decode cX12_remember 118 = .ok (.return_, 1) := by decide +kernel
theorem dX12_undo_0 : decode cX12_undo 0 = .ok (.aload_n 0, 1) := by decide +kernel
theorem dX12_undo_1 : decode cX12_undo 1 = .ok (.iconst 0, 1) := by decide +kernel
theorem dX12_undo_2 : decode cX12_undo 2 = .ok (.putfield 83, 3) := by decide +kernel
theorem dX12_undo_5 : decode cX12_undo 5 = .ok (.aload_n 0, 1) := by decide +kernel
theorem dX12_undo_6 : decode cX12_undo 6 = .ok (.getfield 89, 3) := by decide +kernel
theorem dX12_undo_9 : decode cX12_undo 9 = .ok (.ifCond .ne 10, 3) := by decide +kernel
theorem dX12_undo_12 : decode cX12_undo 12 = .ok (.aload_n 0, 1) := by decide +kernel
theorem dX12_undo_13 : decode cX12_undo 13 = .ok (.bipush (-4), 2) := by decide +kernel
theorem dX12_undo_15 : decode cX12_undo 15 = .ok (.invokevirtual 96, 3) := by decide +kernel
theorem dX12_undo_18 : decode cX12_undo 18 = .ok (.ireturn, 1) := by decide +kernel
theorem dX12_undo_19 : decode cX12_undo 19 = .ok (.aload_n 0, 1) := by decide +kernel
theorem dX12_undo_20 : decode cX12_undo 20 = .ok (.dup, 1) := by decide +kernel
theorem dX12_undo_21 : decode cX12_undo 21 = .ok (.getfield 89, 3) := by decide +kernel
theorem dX12_undo_24 : decode cX12_undo 24 = .ok (.iconst 1, 1) := by decide +kernel
theorem dX12_undo_25 : decode cX12_undo 25 = .ok (.isub, 1) := by decide +kernel
theorem dX12_undo_26 : decode cX12_undo 26 = .ok (.putfield 89, 3) := by decide +kernel
theorem dX12_undo_29 : decode cX12_undo 29 = .ok (.aload_n 0, 1) := by decide +kernel
theorem dX12_undo_30 : decode cX12_undo 30 = .ok (.getfield 16, 3) := by decide +kernel
theorem dX12_undo_33 : decode cX12_undo 33 = .ok (.sipush 626, 3) := by decide +kernel
theorem dX12_undo_36 : decode cX12_undo 36 = .ok (.aload_n 0, 1) := by decide +kernel
theorem dX12_undo_37 : decode cX12_undo 37 = .ok (.getfield 89, 3) := by decide +kernel
theorem dX12_undo_40 : decode cX12_undo 40 = .ok (.imul, 1) := by decide +kernel
theorem dX12_undo_41 : decode cX12_undo 41 = .ok (.aload_n 0, 1) := by decide +kernel
theorem dX12_undo_42 : decode cX12_undo 42 = .ok (.getfield 13, 3) := by decide +kernel
theorem dX12_undo_45 : decode cX12_undo 45 = .ok (.iconst 0, 1) := by decide +kernel
theorem dX12_undo_46 : decode cX12_undo 46 = .ok (.invokestatic 92, 3) := by decide +kernel
theorem dX12_undo_49 : decode cX12_undo 49 = .ok (.aload_n 0, 1) := by decide +kernel
theorem dX12_undo_50 : decode cX12_undo 50 = .ok (.aload_n 0, 1) := by decide +kernel
theorem dX12_undo_51 : decode cX12_undo 51 = .ok (.getfield 19, 3) := by decide +kernel
theorem dX12_undo_54 : decode cX12_undo 54 = .ok (.aload_n 0, 1) := by decide +kernel
theorem dX12_undo_55 : decode cX12_undo 55 = .ok (.getfield 89, 3) := by decide +kernel
theorem dX12_undo_58 : decode cX12_undo 58 = .ok (.iaload, 1) := by decide +kernel
theorem dX12_undo_59 : decode cX12_undo 59 = .ok (.invokevirtual 100, 3) := by decide +kernel
theorem dX12_undo_62 : decode cX12_undo 62 = .ok (.ireturn, 1) := by decide +kernel
theorem dX12_degrees_0 : decode cX12_degrees 0 = .ok (.iconst 0, 1) := by decide +kernel
theorem dX12_degrees_1 : decode cX12_degrees 1 = .ok (.istore_n 1, 1) := by decide +kernel
theorem dX12_degrees_2 : decode cX12_degrees 2 = .ok (.iconst 0, 1) := by decide +kernel
theorem dX12_degrees_3 : decode cX12_degrees 3 = .ok (.istore_n 2, 1) := by decide +kernel
theorem dX12_degrees_4 : decode cX12_degrees 4 = .ok (.iload_n 2, 1) := by decide +kernel
theorem dX12_degrees_5 : decode cX12_degrees 5 = .ok (.bipush 8, 2) := by decide +kernel
theorem dX12_degrees_7 : decode cX12_degrees 7 = .ok (.if_icmp .ge 21, 3) := by decide +kernel
theorem dX12_degrees_10 : decode cX12_degrees 10 = .ok (.iload_n 1, 1) := by decide +kernel
theorem dX12_degrees_11 : decode cX12_degrees 11 = .ok (.aload_n 0, 1) := by decide +kernel
theorem dX12_degrees_12 : decode cX12_degrees 12 = .ok (.getfield 13, 3) := by decide +kernel
theorem dX12_degrees_15 : decode cX12_degrees 15 = .ok (.bipush 14, 2) := by decide +kernel
theorem dX12_degrees_17 : decode cX12_degrees 17 = .ok (.iload_n 2, 1) := by decide +kernel
theorem dX12_degrees_18 : decode cX12_degrees 18 = .ok (.imul, 1) := by decide +kernel
theorem dX12_degrees_19 : decode cX12_degrees 19 = .ok (.iaload, 1) := by decide +kernel
theorem dX12_degrees_20 : decode cX12_degrees 20 = .ok (.iadd, 1) := by decide +kernel
theorem dX12_degrees_21 : decode cX12_degrees 21 = .ok (.istore_n 1, 1) := by decide +kernel
theorem dX12_degrees_22 : decode cX12_degrees 22 = .ok (.iinc 2 1, 3) := by decide +kernel
theorem dX12_degrees_25 : decode cX12_degrees 25 = .ok (.goto (-21), 3) := by decide +kernel
theorem dX12_degrees_28 : decode cX12_degrees 28 = .ok (.iload_n 1, 1) := by decide +kernel
theorem dX12_degrees_29 : decode cX12_degrees 29 = .ok (.ireturn, 1) := by decide +kernel
theorem dX12_image_0 : decode cX12_image 0 = .ok (.aload_n 0, 1) := by decide +kernel
theorem dX12_image_1 : decode cX12_image 1 = .ok (.iconst 0, 1) := by decide +kernel
theorem dX12_image_2 : decode cX12_image 2 = .ok (.putfield 83, 3) := by decide +kernel
theorem dX12_image_5 : decode cX12_image 5 = .ok (.iload_n 1, 1) := by decide +kernel
theorem dX12_image_6 : decode cX12_image 6 = .ok (.i2l, 1) := by decide +kernel
theorem dX12_image_7 : decode cX12_image 7 = .ok (.lconst 0, 1) := by decide +kernel
theorem dX12_image_8 : decode cX12_image 8 = .ok (.lconst 1, 1) := by decide +kernel
theorem dX12_image_9 : decode cX12_image 9 = .ok (.invokestatic 103, 3) := by decide +kernel
theorem dX12_image_12 : decode cX12_image 12 = .ok (.ifCond .ne 9, 3) := by decide +kernel
theorem dX12_image_15 : decode cX12_image 15 = .ok (.aload_n 0, 1) := by decide +kernel
theorem dX12_image_16 : decode cX12_image 16 = .ok (.iconst (-1), 1) := by decide +kernel
theorem dX12_image_17 : decode cX12_image 17 = .ok (.invokevirtual 96, 3) := by decide +kernel
theorem dX12_image_20 : decode cX12_image 20 = .ok (.ireturn, 1) := by decide +kernel
theorem dX12_image_21 : decode cX12_image 21 = .ok (.aload_n 0, 1) := by decide +kernel
theorem dX12_image_22 : decode cX12_image 22 = .ok (.getfield 13, 3) := by decide +kernel
theorem dX12_image_25 : decode cX12_image 25 = .ok (.iconst 0, 1) := by decide +kernel
theorem dX12_image_26 : decode cX12_image 26 = .ok (.aload_n 0, 1) := by decide +kernel
theorem dX12_image_27 : decode cX12_image 27 = .ok (.getfield 22, 3) := by decide +kernel
theorem dX12_image_30 : decode cX12_image 30 = .ok (.sipush 626, 3) := by decide +kernel
theorem dX12_image_33 : decode cX12_image 33 = .ok (.iload_n 1, 1) := by decide +kernel
theorem dX12_image_34 : decode cX12_image 34 = .ok (.imul, 1) := by decide +kernel
theorem dX12_image_35 : decode cX12_image 35 = .ok (.invokestatic 92, 3) := by decide +kernel
theorem dX12_image_38 : decode cX12_image 38 = .ok (.aload_n 0, 1) := by decide +kernel
theorem dX12_image_39 : decode cX12_image 39 = .ok (.getfield 25, 3) := by decide +kernel
theorem dX12_image_42 : decode cX12_image 42 = .ok (.iload_n 1, 1) := by decide +kernel
theorem dX12_image_43 : decode cX12_image 43 = .ok (.iconst 1, 1) := by decide +kernel
theorem dX12_image_44 : decode cX12_image 44 = .ok (.bastore, 1) := by decide +kernel
theorem dX12_image_45 : decode cX12_image 45 = .ok (.aload_n 0, 1) := by decide +kernel
theorem dX12_image_46 : decode cX12_image 46 = .ok (.aload_n 0, 1) := by decide +kernel
theorem dX12_image_47 : decode cX12_image 47 = .ok (.invokevirtual 107, 3) := by decide +kernel
theorem dX12_image_50 : decode cX12_image 50 = .ok (.invokevirtual 100, 3) := by decide +kernel
theorem dX12_image_53 : decode cX12_image 53 = .ok (.ireturn, 1) := by decide +kernel
theorem dX12_back_0 : decode cX12_back 0 = .ok (.aload_n 0, 1) := by decide +kernel
theorem dX12_back_1 : decode cX12_back 1 = .ok (.iconst 0, 1) := by decide +kernel
theorem dX12_back_2 : decode cX12_back 2 = .ok (.putfield 83, 3) := by decide +kernel
theorem dX12_back_5 : decode cX12_back 5 = .ok (.iload_n 1, 1) := by decide +kernel
theorem dX12_back_6 : decode cX12_back 6 = .ok (.i2l, 1) := by decide +kernel
theorem dX12_back_7 : decode cX12_back 7 = .ok (.lconst 0, 1) := by decide +kernel
theorem dX12_back_8 : decode cX12_back 8 = .ok (.lconst 1, 1) := by decide +kernel
theorem dX12_back_9 : decode cX12_back 9 = .ok (.invokestatic 103, 3) := by decide +kernel
theorem dX12_back_12 : decode cX12_back 12 = .ok (.ifCond .ne 9, 3) := by decide +kernel
theorem dX12_back_15 : decode cX12_back 15 = .ok (.aload_n 0, 1) := by decide +kernel
theorem dX12_back_16 : decode cX12_back 16 = .ok (.iconst (-1), 1) := by decide +kernel
theorem dX12_back_17 : decode cX12_back 17 = .ok (.invokevirtual 96, 3) := by decide +kernel
theorem dX12_back_20 : decode cX12_back 20 = .ok (.ireturn, 1) := by decide +kernel
theorem dX12_back_21 : decode cX12_back 21 = .ok (.aload_n 0, 1) := by decide +kernel
theorem dX12_back_22 : decode cX12_back 22 = .ok (.getfield 25, 3) := by decide +kernel
theorem dX12_back_25 : decode cX12_back 25 = .ok (.iload_n 1, 1) := by decide +kernel
theorem dX12_back_26 : decode cX12_back 26 = .ok (.baload, 1) := by decide +kernel
theorem dX12_back_27 : decode cX12_back 27 = .ok (.ifCond .ne 10, 3) := by decide +kernel
theorem dX12_back_30 : decode cX12_back 30 = .ok (.aload_n 0, 1) := by decide +kernel
theorem dX12_back_31 : decode cX12_back 31 = .ok (.bipush (-2), 2) := by decide +kernel
theorem dX12_back_33 : decode cX12_back 33 = .ok (.invokevirtual 96, 3) := by decide +kernel
theorem dX12_back_36 : decode cX12_back 36 = .ok (.ireturn, 1) := by decide +kernel
theorem dX12_back_37 : decode cX12_back 37 = .ok (.aload_n 0, 1) := by decide +kernel
theorem dX12_back_38 : decode cX12_back 38 = .ok (.getfield 22, 3) := by decide +kernel
theorem dX12_back_41 : decode cX12_back 41 = .ok (.sipush 626, 3) := by decide +kernel
theorem dX12_back_44 : decode cX12_back 44 = .ok (.iload_n 1, 1) := by decide +kernel
theorem dX12_back_45 : decode cX12_back 45 = .ok (.imul, 1) := by decide +kernel
theorem dX12_back_46 : decode cX12_back 46 = .ok (.aload_n 0, 1) := by decide +kernel
theorem dX12_back_47 : decode cX12_back 47 = .ok (.getfield 13, 3) := by decide +kernel
theorem dX12_back_50 : decode cX12_back 50 = .ok (.iconst 0, 1) := by decide +kernel
theorem dX12_back_51 : decode cX12_back 51 = .ok (.invokestatic 92, 3) := by decide +kernel
theorem dX12_back_54 : decode cX12_back 54 = .ok (.aload_n 0, 1) := by decide +kernel
theorem dX12_back_55 : decode cX12_back 55 = .ok (.iconst 0, 1) := by decide +kernel
theorem dX12_back_56 : decode cX12_back 56 = .ok (.putfield 89, 3) := by decide +kernel
theorem dX12_back_59 : decode cX12_back 59 = .ok (.aload_n 0, 1) := by decide +kernel
theorem dX12_back_60 : decode cX12_back 60 = .ok (.aload_n 0, 1) := by decide +kernel
theorem dX12_back_61 : decode cX12_back 61 = .ok (.invokevirtual 107, 3) := by decide +kernel
theorem dX12_back_64 : decode cX12_back 64 = .ok (.invokevirtual 100, 3) := by decide +kernel
theorem dX12_back_67 : decode cX12_back 67 = .ok (.ireturn, 1) := by decide +kernel
theorem dX12_isStore_0 : decode cX12_isStore 0 = .ok (.iload_n 0, 1) := by decide +kernel
theorem dX12_isStore_1 : decode cX12_isStore 1 = .ok (.i2l, 1) := by decide +kernel
theorem dX12_isStore_2 : decode cX12_isStore 2 = .ok (.lconst 0, 1) := by decide +kernel
theorem dX12_isStore_3 : decode cX12_isStore 3 = .ok (.ldc2_w 111, 3) := by decide +kernel
theorem dX12_isStore_6 : decode cX12_isStore 6 = .ok (.invokestatic 103, 3) := by decide +kernel
theorem dX12_isStore_9 : decode cX12_isStore 9 = .ok (.ireturn, 1) := by decide +kernel
theorem dX12_degreeOf_0 : decode cX12_degreeOf 0 = .ok (.aload_n 0, 1) := by decide +kernel
theorem dX12_degreeOf_1 : decode cX12_degreeOf 1 = .ok (.getfield 13, 3) := by decide +kernel
theorem dX12_degreeOf_4 : decode cX12_degreeOf 4 = .ok (.bipush 14, 2) := by decide +kernel
theorem dX12_degreeOf_6 : decode cX12_degreeOf 6 = .ok (.iload_n 1, 1) := by decide +kernel
theorem dX12_degreeOf_7 : decode cX12_degreeOf 7 = .ok (.imul, 1) := by decide +kernel
theorem dX12_degreeOf_8 : decode cX12_degreeOf 8 = .ok (.iaload, 1) := by decide +kernel
theorem dX12_degreeOf_9 : decode cX12_degreeOf 9 = .ok (.ireturn, 1) := by decide +kernel
theorem dX12_at_0 : decode cX12_at 0 = .ok (.aload_n 0, 1) := by decide +kernel
theorem dX12_at_1 : decode cX12_at 1 = .ok (.getfield 13, 3) := by decide +kernel
theorem dX12_at_4 : decode cX12_at 4 = .ok (.bipush 14, 2) := by decide +kernel
theorem dX12_at_6 : decode cX12_at 6 = .ok (.iload_n 1, 1) := by decide +kernel
theorem dX12_at_7 : decode cX12_at 7 = .ok (.imul, 1) := by decide +kernel
theorem dX12_at_8 : decode cX12_at 8 = .ok (.iconst 1, 1) := by decide +kernel
theorem dX12_at_9 : decode cX12_at 9 = .ok (.iadd, 1) := by decide +kernel
theorem dX12_at_10 : decode cX12_at 10 = .ok (.iload_n 2, 1) := by decide +kernel
theorem dX12_at_11 : decode cX12_at 11 = .ok (.iadd, 1) := by decide +kernel
theorem dX12_at_12 : decode cX12_at 12 = .ok (.iaload, 1) := by decide +kernel
theorem dX12_at_13 : decode cX12_at 13 = .ok (.ireturn, 1) := by decide +kernel
theorem dX12_empty_0 : decode cX12_empty 0 = .ok (.iconst 0, 1) := by decide +kernel
theorem dX12_empty_1 : decode cX12_empty 1 = .ok (.istore_n 1, 1) := by decide +kernel
theorem dX12_empty_2 : decode cX12_empty 2 = .ok (.iload_n 1, 1) := by decide +kernel
theorem dX12_empty_3 : decode cX12_empty 3 = .ok (.bipush 60, 2) := by decide +kernel
theorem dX12_empty_5 : decode cX12_empty 5 = .ok (.if_icmp .ge 16, 3) := by decide +kernel
theorem dX12_empty_8 : decode cX12_empty 8 = .ok (.aload_n 0, 1) := by decide +kernel
theorem dX12_empty_9 : decode cX12_empty 9 = .ok (.getfield 29, 3) := by decide +kernel
theorem dX12_empty_12 : decode cX12_empty 12 = .ok (.iload_n 1, 1) := by decide +kernel
theorem dX12_empty_13 : decode cX12_empty 13 = .ok (.lconst 0, 1) := by decide +kernel
theorem dX12_empty_14 : decode cX12_empty 14 = .ok (.lastore, 1) := by decide +kernel
theorem dX12_empty_15 : decode cX12_empty 15 = .ok (.iinc 1 1, 3) := by decide +kernel
theorem dX12_empty_18 : decode cX12_empty 18 = .ok (.goto (-16), 3) := by decide +kernel
theorem dX12_empty_21 : decode cX12_empty 21 = .ok (.aload_n 0, 1) := by decide +kernel
theorem dX12_empty_22 : decode cX12_empty 22 = .ok (.iconst (-1), 1) := by decide +kernel
theorem dX12_empty_23 : decode cX12_empty 23 = .ok (.putfield 113, 3) := by decide +kernel
theorem dX12_empty_26 : decode cX12_empty 26 = .ok (.return_, 1) := by decide +kernel
theorem dX12_find_0 : decode cX12_find 0 = .ok (.aload_n 0, 1) := by decide +kernel
theorem dX12_find_1 : decode cX12_find 1 = .ok (.iconst (-1), 1) := by decide +kernel
theorem dX12_find_2 : decode cX12_find 2 = .ok (.putfield 113, 3) := by decide +kernel
theorem dX12_find_5 : decode cX12_find 5 = .ok (.iconst 0, 1) := by decide +kernel
theorem dX12_find_6 : decode cX12_find 6 = .ok (.istore_n 1, 1) := by decide +kernel
theorem dX12_find_7 : decode cX12_find 7 = .ok (.iload_n 1, 1) := by decide +kernel
theorem dX12_find_8 : decode cX12_find 8 = .ok (.bipush 60, 2) := by decide +kernel
theorem dX12_find_10 : decode cX12_find 10 = .ok (.if_icmp .ge 32, 3) := by decide +kernel
theorem dX12_find_13 : decode cX12_find 13 = .ok (.aload_n 0, 1) := by decide +kernel
theorem dX12_find_14 : decode cX12_find 14 = .ok (.aload_n 0, 1) := by decide +kernel
theorem dX12_find_15 : decode cX12_find 15 = .ok (.getfield 29, 3) := by decide +kernel
theorem dX12_find_18 : decode cX12_find 18 = .ok (.iload_n 1, 1) := by decide +kernel
theorem dX12_find_19 : decode cX12_find 19 = .ok (.laload, 1) := by decide +kernel
theorem dX12_find_20 : decode cX12_find 20 = .ok (.lconst 0, 1) := by decide +kernel
theorem dX12_find_21 : decode cX12_find 21 = .ok (.lcmp, 1) := by decide +kernel
theorem dX12_find_22 : decode cX12_find 22 = .ok (.ifCond .eq 7, 3) := by decide +kernel
theorem dX12_find_25 : decode cX12_find 25 = .ok (.iload_n 1, 1) := by decide +kernel
theorem dX12_find_26 : decode cX12_find 26 = .ok (.goto 7, 3) := by decide +kernel
theorem dX12_find_29 : decode cX12_find 29 = .ok (.aload_n 0, 1) := by decide +kernel
theorem dX12_find_30 : decode cX12_find 30 = .ok (.getfield 113, 3) := by decide +kernel
theorem dX12_find_33 : decode cX12_find 33 = .ok (.putfield 113, 3) := by decide +kernel
theorem dX12_find_36 : decode cX12_find 36 = .ok (.iinc 1 1, 3) := by decide +kernel
theorem dX12_find_39 : decode cX12_find 39 = .ok (.goto (-32), 3) := by decide +kernel
theorem dX12_find_42 : decode cX12_find 42 = .ok (.return_, 1) := by decide +kernel
theorem dX12_take_0 : decode cX12_take 0 = .ok (.aload_n 0, 1) := by decide +kernel
theorem dX12_take_1 : decode cX12_take 1 = .ok (.invokevirtual 116, 3) := by decide +kernel
theorem dX12_take_4 : decode cX12_take 4 = .ok (.iconst 0, 1) := by decide +kernel
theorem dX12_take_5 : decode cX12_take 5 = .ok (.istore_n 2, 1) := by decide +kernel
theorem dX12_take_6 : decode cX12_take 6 = .ok (.iload_n 2, 1) := by decide +kernel
theorem dX12_take_7 : decode cX12_take 7 = .ok (.aload_n 0, 1) := by decide +kernel
theorem dX12_take_8 : decode cX12_take 8 = .ok (.iload_n 1, 1) := by decide +kernel
theorem dX12_take_9 : decode cX12_take 9 = .ok (.invokevirtual 119, 3) := by decide +kernel
theorem dX12_take_12 : decode cX12_take 12 = .ok (.if_icmp .gt 22, 3) := by decide +kernel
theorem dX12_take_15 : decode cX12_take 15 = .ok (.aload_n 0, 1) := by decide +kernel
theorem dX12_take_16 : decode cX12_take 16 = .ok (.getfield 29, 3) := by decide +kernel
theorem dX12_take_19 : decode cX12_take 19 = .ok (.iload_n 2, 1) := by decide +kernel
theorem dX12_take_20 : decode cX12_take 20 = .ok (.aload_n 0, 1) := by decide +kernel
theorem dX12_take_21 : decode cX12_take 21 = .ok (.iload_n 1, 1) := by decide +kernel
theorem dX12_take_22 : decode cX12_take 22 = .ok (.iload_n 2, 1) := by decide +kernel
theorem dX12_take_23 : decode cX12_take 23 = .ok (.invokevirtual 122, 3) := by decide +kernel
theorem dX12_take_26 : decode cX12_take 26 = .ok (.i2l, 1) := by decide +kernel
theorem dX12_take_27 : decode cX12_take 27 = .ok (.lastore, 1) := by decide +kernel
theorem dX12_take_28 : decode cX12_take 28 = .ok (.iinc 2 1, 3) := by decide +kernel
theorem dX12_take_31 : decode cX12_take 31 = .ok (.goto (-25), 3) := by decide +kernel
theorem dX12_take_34 : decode cX12_take 34 = .ok (.aload_n 0, 1) := by decide +kernel
theorem dX12_take_35 : decode cX12_take 35 = .ok (.aload_n 0, 1) := by decide +kernel
theorem dX12_take_36 : decode cX12_take 36 = .ok (.iload_n 1, 1) := by decide +kernel
theorem dX12_take_37 : decode cX12_take 37 = .ok (.invokevirtual 119, 3) := by decide +kernel
theorem dX12_take_40 : decode cX12_take 40 = .ok (.putfield 113, 3) := by decide +kernel
theorem dX12_take_43 : decode cX12_take 43 = .ok (.return_, 1) := by decide +kernel
theorem dX12_isFit_0 : decode cX12_isFit 0 = .ok (.aload_n 0, 1) := by decide +kernel
theorem dX12_isFit_1 : decode cX12_isFit 1 = .ok (.getfield 113, 3) := by decide +kernel
theorem dX12_isFit_4 : decode cX12_isFit 4 = .ok (.i2l, 1) := by decide +kernel
theorem dX12_isFit_5 : decode cX12_isFit 5 = .ok (.lconst 0, 1) := by decide +kernel
theorem dX12_isFit_6 : decode cX12_isFit 6 = .ok (.ldc2_w 126, 3) := by decide +kernel
theorem dX12_isFit_9 : decode cX12_isFit 9 = .ok (.invokestatic 103, 3) := by decide +kernel
theorem dX12_isFit_12 : decode cX12_isFit 12 = .ok (.istore_n 1, 1) := by decide +kernel
theorem dX12_isFit_13 : decode cX12_isFit 13 = .ok (.iconst 0, 1) := by decide +kernel
theorem dX12_isFit_14 : decode cX12_isFit 14 = .ok (.istore_n 2, 1) := by decide +kernel
theorem dX12_isFit_15 : decode cX12_isFit 15 = .ok (.iload_n 2, 1) := by decide +kernel
theorem dX12_isFit_16 : decode cX12_isFit 16 = .ok (.bipush 60, 2) := by decide +kernel
theorem dX12_isFit_18 : decode cX12_isFit 18 = .ok (.if_icmp .ge 37, 3) := by decide +kernel
theorem dX12_isFit_21 : decode cX12_isFit 21 = .ok (.iload_n 1, 1) := by decide +kernel
theorem dX12_isFit_22 : decode cX12_isFit 22 = .ok (.ifCond .eq 25, 3) := by decide +kernel
theorem dX12_isFit_25 : decode cX12_isFit 25 = .ok (.aload_n 0, 1) := by decide +kernel
theorem dX12_isFit_26 : decode cX12_isFit 26 = .ok (.getfield 29, 3) := by decide +kernel
theorem dX12_isFit_29 : decode cX12_isFit 29 = .ok (.iload_n 2, 1) := by decide +kernel
theorem dX12_isFit_30 : decode cX12_isFit 30 = .ok (.laload, 1) := by decide +kernel
theorem dX12_isFit_31 : decode cX12_isFit 31 = .ok (.ldc2_w 128, 3) := by decide +kernel
theorem dX12_isFit_34 : decode cX12_isFit 34 = .ok (.ldc2_w 130, 3) := by decide +kernel
theorem dX12_isFit_37 : decode cX12_isFit 37 = .ok (.invokestatic 103, 3) := by decide +kernel
theorem dX12_isFit_40 : decode cX12_isFit 40 = .ok (.ifCond .eq 7, 3) := by decide +kernel
theorem dX12_isFit_43 : decode cX12_isFit 43 = .ok (.iconst 1, 1) := by decide +kernel
theorem dX12_isFit_44 : decode cX12_isFit 44 = .ok (.goto 4, 3) := by decide +kernel
theorem dX12_isFit_47 : decode cX12_isFit 47 = .ok (.iconst 0, 1) := by decide +kernel
theorem dX12_isFit_48 : decode cX12_isFit 48 = .ok (.istore_n 1, 1) := by decide +kernel
theorem dX12_isFit_49 : decode cX12_isFit 49 = .ok (.iinc 2 1, 3) := by decide +kernel
theorem dX12_isFit_52 : decode cX12_isFit 52 = .ok (.goto (-37), 3) := by decide +kernel
theorem dX12_isFit_55 : decode cX12_isFit 55 = .ok (.iload_n 1, 1) := by decide +kernel
theorem dX12_isFit_56 : decode cX12_isFit 56 = .ok (.ireturn, 1) := by decide +kernel
theorem dX12_put_0 : decode cX12_put 0 = .ok (.aload_n 0, 1) := by decide +kernel
theorem dX12_put_1 : decode cX12_put 1 = .ok (.invokevirtual 132, 3) := by decide +kernel
theorem dX12_put_4 : decode cX12_put 4 = .ok (.aload_n 0, 1) := by decide +kernel
theorem dX12_put_5 : decode cX12_put 5 = .ok (.invokevirtual 135, 3) := by decide +kernel
theorem dX12_put_8 : decode cX12_put 8 = .ok (.ifCond .ne 10, 3) := by decide +kernel
theorem dX12_put_11 : decode cX12_put 11 = .ok (.aload_n 0, 1) := by decide +kernel
theorem dX12_put_12 : decode cX12_put 12 = .ok (.bipush (-5), 2) := by decide +kernel
theorem dX12_put_14 : decode cX12_put 14 = .ok (.invokevirtual 96, 3) := by decide +kernel
theorem dX12_put_17 : decode cX12_put 17 = .ok (.ireturn, 1) := by decide +kernel
theorem dX12_put_18 : decode cX12_put 18 = .ok (.aload_n 0, 1) := by decide +kernel
theorem dX12_put_19 : decode cX12_put 19 = .ok (.iload_n 2, 1) := by decide +kernel
theorem dX12_put_20 : decode cX12_put 20 = .ok (.invokevirtual 139, 3) := by decide +kernel
theorem dX12_put_23 : decode cX12_put 23 = .ok (.aload_n 0, 1) := by decide +kernel
theorem dX12_put_24 : decode cX12_put 24 = .ok (.getfield 13, 3) := by decide +kernel
theorem dX12_put_27 : decode cX12_put 27 = .ok (.bipush 14, 2) := by decide +kernel
theorem dX12_put_29 : decode cX12_put 29 = .ok (.iload_n 1, 1) := by decide +kernel
theorem dX12_put_30 : decode cX12_put 30 = .ok (.imul, 1) := by decide +kernel
theorem dX12_put_31 : decode cX12_put 31 = .ok (.aload_n 0, 1) := by decide +kernel
theorem dX12_put_32 : decode cX12_put 32 = .ok (.getfield 113, 3) := by decide +kernel
theorem dX12_put_35 : decode cX12_put 35 = .ok (.iastore, 1) := by decide +kernel
theorem dX12_put_36 : decode cX12_put 36 = .ok (.iconst 0, 1) := by decide +kernel
theorem dX12_put_37 : decode cX12_put 37 = .ok (.istore_n 3, 1) := by decide +kernel
theorem dX12_put_38 : decode cX12_put 38 = .ok (.iload_n 3, 1) := by decide +kernel
theorem dX12_put_39 : decode cX12_put 39 = .ok (.bipush 12, 2) := by decide +kernel
theorem dX12_put_41 : decode cX12_put 41 = .ok (.if_icmp .gt 29, 3) := by decide +kernel
theorem dX12_put_44 : decode cX12_put 44 = .ok (.aload_n 0, 1) := by decide +kernel
theorem dX12_put_45 : decode cX12_put 45 = .ok (.getfield 13, 3) := by decide +kernel
theorem dX12_put_48 : decode cX12_put 48 = .ok (.bipush 14, 2) := by decide +kernel
theorem dX12_put_50 : decode cX12_put 50 = .ok (.iload_n 1, 1) := by decide +kernel
theorem dX12_put_51 : decode cX12_put 51 = .ok (.imul, 1) := by decide +kernel
theorem dX12_put_52 : decode cX12_put 52 = .ok (.iconst 1, 1) := by decide +kernel
theorem dX12_put_53 : decode cX12_put 53 = .ok (.iadd, 1) := by decide +kernel
theorem dX12_put_54 : decode cX12_put 54 = .ok (.iload_n 3, 1) := by decide +kernel
theorem dX12_put_55 : decode cX12_put 55 = .ok (.iadd, 1) := by decide +kernel
theorem dX12_put_56 : decode cX12_put 56 = .ok (.aload_n 0, 1) := by decide +kernel
theorem dX12_put_57 : decode cX12_put 57 = .ok (.getfield 29, 3) := by decide +kernel
theorem dX12_put_60 : decode cX12_put 60 = .ok (.iload_n 3, 1) := by decide +kernel
theorem dX12_put_61 : decode cX12_put 61 = .ok (.laload, 1) := by decide +kernel
theorem dX12_put_62 : decode cX12_put 62 = .ok (.l2i, 1) := by decide +kernel
theorem dX12_put_63 : decode cX12_put 63 = .ok (.iastore, 1) := by decide +kernel
theorem dX12_put_64 : decode cX12_put 64 = .ok (.iinc 3 1, 3) := by decide +kernel
theorem dX12_put_67 : decode cX12_put 67 = .ok (.goto (-29), 3) := by decide +kernel
theorem dX12_put_70 : decode cX12_put 70 = .ok (.aload_n 0, 1) := by decide +kernel
theorem dX12_put_71 : decode cX12_put 71 = .ok (.aload_n 0, 1) := by decide +kernel
theorem dX12_put_72 : decode cX12_put 72 = .ok (.getfield 113, 3) := by decide +kernel
theorem dX12_put_75 : decode cX12_put 75 = .ok (.invokevirtual 100, 3) := by decide +kernel
theorem dX12_put_78 : decode cX12_put 78 = .ok (.ireturn, 1) := by decide +kernel
theorem dX12_takeDivisor_0 : decode cX12_takeDivisor 0 = .ok (.aload_n 0, 1) := by decide +kernel
theorem dX12_takeDivisor_1 : decode cX12_takeDivisor 1 = .ok (.aload_n 0, 1) := by decide +kernel
theorem dX12_takeDivisor_2 : decode cX12_takeDivisor 2 = .ok (.iload_n 1, 1) := by decide +kernel
theorem dX12_takeDivisor_3 : decode cX12_takeDivisor 3 = .ok (.invokevirtual 119, 3) := by decide +kernel
theorem dX12_takeDivisor_6 : decode cX12_takeDivisor 6 = .ok (.putfield 143, 3) := by decide +kernel
theorem dX12_takeDivisor_9 : decode cX12_takeDivisor 9 = .ok (.iconst 0, 1) := by decide +kernel
theorem dX12_takeDivisor_10 : decode cX12_takeDivisor 10 = .ok (.istore_n 2, 1) := by decide +kernel
theorem dX12_takeDivisor_11 : decode cX12_takeDivisor 11 = .ok (.iload_n 2, 1) := by decide +kernel
theorem dX12_takeDivisor_12 : decode cX12_takeDivisor 12 = .ok (.bipush 12, 2) := by decide +kernel
theorem dX12_takeDivisor_14 : decode cX12_takeDivisor 14 = .ok (.if_icmp .gt 34, 3) := by decide +kernel
theorem dX12_takeDivisor_17 : decode cX12_takeDivisor 17 = .ok (.aload_n 0, 1) := by decide +kernel
theorem dX12_takeDivisor_18 : decode cX12_takeDivisor 18 = .ok (.getfield 33, 3) := by decide +kernel
theorem dX12_takeDivisor_21 : decode cX12_takeDivisor 21 = .ok (.iload_n 2, 1) := by decide +kernel
theorem dX12_takeDivisor_22 : decode cX12_takeDivisor 22 = .ok (.iload_n 2, 1) := by decide +kernel
theorem dX12_takeDivisor_23 : decode cX12_takeDivisor 23 = .ok (.aload_n 0, 1) := by decide +kernel
theorem dX12_takeDivisor_24 : decode cX12_takeDivisor 24 = .ok (.getfield 143, 3) := by decide +kernel
theorem dX12_takeDivisor_27 : decode cX12_takeDivisor 27 = .ok (.if_icmp .gt 13, 3) := by decide +kernel
theorem dX12_takeDivisor_30 : decode cX12_takeDivisor 30 = .ok (.aload_n 0, 1) := by decide +kernel
theorem dX12_takeDivisor_31 : decode cX12_takeDivisor 31 = .ok (.iload_n 1, 1) := by decide +kernel
theorem dX12_takeDivisor_32 : decode cX12_takeDivisor 32 = .ok (.iload_n 2, 1) := by decide +kernel
theorem dX12_takeDivisor_33 : decode cX12_takeDivisor 33 = .ok (.invokevirtual 122, 3) := by decide +kernel
theorem dX12_takeDivisor_36 : decode cX12_takeDivisor 36 = .ok (.i2l, 1) := by decide +kernel
theorem dX12_takeDivisor_37 : decode cX12_takeDivisor 37 = .ok (.goto 4, 3) := by decide +kernel
theorem dX12_takeDivisor_40 : decode cX12_takeDivisor 40 = .ok (.lconst 0, 1) := by decide +kernel
theorem dX12_takeDivisor_41 : decode cX12_takeDivisor 41 = .ok (.lastore, 1) := by decide +kernel
theorem dX12_takeDivisor_42 : decode cX12_takeDivisor 42 = .ok (.iinc 2 1, 3) := by decide +kernel
theorem dX12_takeDivisor_45 : decode cX12_takeDivisor 45 = .ok (.goto (-34), 3) := by decide +kernel
theorem dX12_takeDivisor_48 : decode cX12_takeDivisor 48 = .ok (.return_, 1) := by decide +kernel
theorem dX12_divides_0 : decode cX12_divides 0 = .ok (.iconst 0, 1) := by decide +kernel
theorem dX12_divides_1 : decode cX12_divides 1 = .ok (.istore_n 1, 1) := by decide +kernel
theorem dX12_divides_2 : decode cX12_divides 2 = .ok (.iload_n 1, 1) := by decide +kernel
theorem dX12_divides_3 : decode cX12_divides 3 = .ok (.bipush 60, 2) := by decide +kernel
theorem dX12_divides_5 : decode cX12_divides 5 = .ok (.if_icmp .ge 28, 3) := by decide +kernel
theorem dX12_divides_8 : decode cX12_divides 8 = .ok (.aload_n 0, 1) := by decide +kernel
theorem dX12_divides_9 : decode cX12_divides 9 = .ok (.getfield 39, 3) := by decide +kernel
theorem dX12_divides_12 : decode cX12_divides 12 = .ok (.iload_n 1, 1) := by decide +kernel
theorem dX12_divides_13 : decode cX12_divides 13 = .ok (.aload_n 0, 1) := by decide +kernel
theorem dX12_divides_14 : decode cX12_divides 14 = .ok (.getfield 29, 3) := by decide +kernel
theorem dX12_divides_17 : decode cX12_divides 17 = .ok (.iload_n 1, 1) := by decide +kernel
theorem dX12_divides_18 : decode cX12_divides 18 = .ok (.laload, 1) := by decide +kernel
theorem dX12_divides_19 : decode cX12_divides 19 = .ok (.lastore, 1) := by decide +kernel
theorem dX12_divides_20 : decode cX12_divides 20 = .ok (.aload_n 0, 1) := by decide +kernel
theorem dX12_divides_21 : decode cX12_divides 21 = .ok (.getfield 36, 3) := by decide +kernel
theorem dX12_divides_24 : decode cX12_divides 24 = .ok (.iload_n 1, 1) := by decide +kernel
theorem dX12_divides_25 : decode cX12_divides 25 = .ok (.lconst 0, 1) := by decide +kernel
theorem dX12_divides_26 : decode cX12_divides 26 = .ok (.lastore, 1) := by decide +kernel
theorem dX12_divides_27 : decode cX12_divides 27 = .ok (.iinc 1 1, 3) := by decide +kernel
theorem dX12_divides_30 : decode cX12_divides 30 = .ok (.goto (-28), 3) := by decide +kernel
theorem dX12_divides_33 : decode cX12_divides 33 = .ok (.aload_n 0, 1) := by decide +kernel
theorem dX12_divides_34 : decode cX12_divides 34 = .ok (.getfield 33, 3) := by decide +kernel
theorem dX12_divides_37 : decode cX12_divides 37 = .ok (.aload_n 0, 1) := by decide +kernel
theorem dX12_divides_38 : decode cX12_divides 38 = .ok (.getfield 143, 3) := by decide +kernel
theorem dX12_divides_41 : decode cX12_divides 41 = .ok (.laload, 1) := by decide +kernel
theorem dX12_divides_42 : decode cX12_divides 42 = .ok (.lstore_n 1, 1) := by decide +kernel
theorem dX12_divides_43 : decode cX12_divides 43 = .ok (.aload_n 0, 1) := by decide +kernel
theorem dX12_divides_44 : decode cX12_divides 44 = .ok (.getfield 113, 3) := by decide +kernel
theorem dX12_divides_47 : decode cX12_divides 47 = .ok (.istore_n 3, 1) := by decide +kernel
theorem dX12_divides_48 : decode cX12_divides 48 = .ok (.iload_n 3, 1) := by decide +kernel
theorem dX12_divides_49 : decode cX12_divides 49 = .ok (.aload_n 0, 1) := by decide +kernel
theorem dX12_divides_50 : decode cX12_divides 50 = .ok (.getfield 143, 3) := by decide +kernel
theorem dX12_divides_53 : decode cX12_divides 53 = .ok (.if_icmp .lt 105, 3) := by decide +kernel
theorem dX12_divides_56 : decode cX12_divides 56 = .ok (.aload_n 0, 1) := by decide +kernel
theorem dX12_divides_57 : decode cX12_divides 57 = .ok (.getfield 39, 3) := by decide +kernel
theorem dX12_divides_60 : decode cX12_divides 60 = .ok (.iload_n 3, 1) := by decide +kernel
theorem dX12_divides_61 : decode cX12_divides 61 = .ok (.laload, 1) := by decide +kernel
theorem dX12_divides_62 : decode cX12_divides 62 = .ok (.lload_n 1, 1) := by decide +kernel
theorem dX12_divides_63 : decode cX12_divides 63 = .ok (.ldiv, 1) := by decide +kernel
theorem dX12_divides_64 : decode cX12_divides 64 = .ok (.lstore 4, 2) := by decide +kernel
theorem dX12_divides_66 : decode cX12_divides 66 = .ok (.lload 4, 2) := by decide +kernel
theorem dX12_divides_68 : decode cX12_divides 68 = .ok (.lload_n 1, 1) := by decide +kernel
theorem dX12_divides_69 : decode cX12_divides 69 = .ok (.lmul, 1) := by decide +kernel
theorem dX12_divides_70 : decode cX12_divides 70 = .ok (.aload_n 0, 1) := by decide +kernel
theorem dX12_divides_71 : decode cX12_divides 71 = .ok (.getfield 39, 3) := by decide +kernel
theorem dX12_divides_74 : decode cX12_divides 74 = .ok (.iload_n 3, 1) := by decide +kernel
theorem dX12_divides_75 : decode cX12_divides 75 = .ok (.laload, 1) := by decide +kernel
theorem dX12_divides_76 : decode cX12_divides 76 = .ok (.lcmp, 1) := by decide +kernel
theorem dX12_divides_77 : decode cX12_divides 77 = .ok (.ifCond .ne 15, 3) := by decide +kernel
theorem dX12_divides_80 : decode cX12_divides 80 = .ok (.lload 4, 2) := by decide +kernel
theorem dX12_divides_82 : decode cX12_divides 82 = .ok (.invokestatic 146, 3) := by decide +kernel
theorem dX12_divides_85 : decode cX12_divides 85 = .ok (.ldc2_w 150, 3) := by decide +kernel
theorem dX12_divides_88 : decode cX12_divides 88 = .ok (.lcmp, 1) := by decide +kernel
theorem dX12_divides_89 : decode cX12_divides 89 = .ok (.ifCond .le 5, 3) := by decide +kernel
theorem dX12_divides_92 : decode cX12_divides 92 = .ok (.iconst 0, 1) := by decide +kernel
theorem dX12_divides_93 : decode cX12_divides 93 = .ok (.ireturn, 1) := by decide +kernel
theorem dX12_divides_94 : decode cX12_divides 94 = .ok (.aload_n 0, 1) := by decide +kernel
theorem dX12_divides_95 : decode cX12_divides 95 = .ok (.getfield 36, 3) := by decide +kernel
theorem dX12_divides_98 : decode cX12_divides 98 = .ok (.iload_n 3, 1) := by decide +kernel
theorem dX12_divides_99 : decode cX12_divides 99 = .ok (.aload_n 0, 1) := by decide +kernel
theorem dX12_divides_100 : decode cX12_divides 100 = .ok (.getfield 143, 3) := by decide +kernel
theorem dX12_divides_103 : decode cX12_divides 103 = .ok (.isub, 1) := by decide +kernel
theorem dX12_divides_104 : decode cX12_divides 104 = .ok (.lload 4, 2) := by decide +kernel
theorem dX12_divides_106 : decode cX12_divides 106 = .ok (.lastore, 1) := by decide +kernel
theorem dX12_divides_107 : decode cX12_divides 107 = .ok (.iconst 0, 1) := by decide +kernel
theorem dX12_divides_108 : decode cX12_divides 108 = .ok (.istore 6, 2) := by decide +kernel
theorem dX12_divides_110 : decode cX12_divides 110 = .ok (.iload 6, 2) := by decide +kernel
theorem dX12_divides_112 : decode cX12_divides 112 = .ok (.aload_n 0, 1) := by decide +kernel
theorem dX12_divides_113 : decode cX12_divides 113 = .ok (.getfield 143, 3) := by decide +kernel
theorem dX12_divides_116 : decode cX12_divides 116 = .ok (.if_icmp .gt 36, 3) := by decide +kernel
theorem dX12_divides_119 : decode cX12_divides 119 = .ok (.aload_n 0, 1) := by decide +kernel
theorem dX12_divides_120 : decode cX12_divides 120 = .ok (.getfield 39, 3) := by decide +kernel
theorem dX12_divides_123 : decode cX12_divides 123 = .ok (.iload_n 3, 1) := by decide +kernel
theorem dX12_divides_124 : decode cX12_divides 124 = .ok (.aload_n 0, 1) := by decide +kernel
theorem dX12_divides_125 : decode cX12_divides 125 = .ok (.getfield 143, 3) := by decide +kernel
theorem dX12_divides_128 : decode cX12_divides 128 = .ok (.isub, 1) := by decide +kernel
theorem dX12_divides_129 : decode cX12_divides 129 = .ok (.iload 6, 2) := by decide +kernel
theorem dX12_divides_131 : decode cX12_divides 131 = .ok (.iadd, 1) := by decide +kernel
theorem dX12_divides_132 : decode cX12_divides 132 = .ok (.dup2, 1) := by decide +kernel
theorem dX12_divides_133 : decode cX12_divides 133 = .ok (.laload, 1) := by decide +kernel
theorem dX12_divides_134 : decode cX12_divides 134 = .ok (.lload 4, 2) := by decide +kernel
theorem dX12_divides_136 : decode cX12_divides 136 = .ok (.aload_n 0, 1) := by decide +kernel
theorem dX12_divides_137 : decode cX12_divides 137 = .ok (.getfield 33, 3) := by decide +kernel
theorem dX12_divides_140 : decode cX12_divides 140 = .ok (.iload 6, 2) := by decide +kernel
theorem dX12_divides_142 : decode cX12_divides 142 = .ok (.laload, 1) := by decide +kernel
theorem dX12_divides_143 : decode cX12_divides 143 = .ok (.lmul, 1) := by decide +kernel
theorem dX12_divides_144 : decode cX12_divides 144 = .ok (.lsub, 1) := by decide +kernel
theorem dX12_divides_145 : decode cX12_divides 145 = .ok (.lastore, 1) := by decide +kernel
theorem dX12_divides_146 : decode cX12_divides 146 = .ok (.iinc 6 1, 3) := by decide +kernel
theorem dX12_divides_149 : decode cX12_divides 149 = .ok (.goto (-39), 3) := by decide +kernel
theorem dX12_divides_152 : decode cX12_divides 152 = .ok (.iinc 3 (-1), 3) := by decide +kernel
theorem dX12_divides_155 : decode cX12_divides 155 = .ok (.goto (-107), 3) := by decide +kernel
theorem dX12_divides_158 : decode cX12_divides 158 = .ok (.iconst 1, 1) := by decide +kernel
theorem dX12_divides_159 : decode cX12_divides 159 = .ok (.istore_n 3, 1) := by decide +kernel
theorem dX12_divides_160 : decode cX12_divides 160 = .ok (.iconst 0, 1) := by decide +kernel
theorem dX12_divides_161 : decode cX12_divides 161 = .ok (.istore 4, 2) := by decide +kernel
theorem dX12_divides_163 : decode cX12_divides 163 = .ok (.iload 4, 2) := by decide +kernel
theorem dX12_divides_165 : decode cX12_divides 165 = .ok (.bipush 60, 2) := by decide +kernel
theorem dX12_divides_167 : decode cX12_divides 167 = .ok (.if_icmp .ge 31, 3) := by decide +kernel
theorem dX12_divides_170 : decode cX12_divides 170 = .ok (.iload_n 3, 1) := by decide +kernel
theorem dX12_divides_171 : decode cX12_divides 171 = .ok (.ifCond .eq 19, 3) := by decide +kernel
theorem dX12_divides_174 : decode cX12_divides 174 = .ok (.aload_n 0, 1) := by decide +kernel
theorem dX12_divides_175 : decode cX12_divides 175 = .ok (.getfield 39, 3) := by decide +kernel
theorem dX12_divides_178 : decode cX12_divides 178 = .ok (.iload 4, 2) := by decide +kernel
theorem dX12_divides_180 : decode cX12_divides 180 = .ok (.laload, 1) := by decide +kernel
theorem dX12_divides_181 : decode cX12_divides 181 = .ok (.lconst 0, 1) := by decide +kernel
theorem dX12_divides_182 : decode cX12_divides 182 = .ok (.lcmp, 1) := by decide +kernel
theorem dX12_divides_183 : decode cX12_divides 183 = .ok (.ifCond .ne 7, 3) := by decide +kernel
theorem dX12_divides_186 : decode cX12_divides 186 = .ok (.iconst 1, 1) := by decide +kernel
theorem dX12_divides_187 : decode cX12_divides 187 = .ok (.goto 4, 3) := by decide +kernel
theorem dX12_divides_190 : decode cX12_divides 190 = .ok (.iconst 0, 1) := by decide +kernel
theorem dX12_divides_191 : decode cX12_divides 191 = .ok (.istore_n 3, 1) := by decide +kernel
theorem dX12_divides_192 : decode cX12_divides 192 = .ok (.iinc 4 1, 3) := by decide +kernel
theorem dX12_divides_195 : decode cX12_divides 195 = .ok (.goto (-32), 3) := by decide +kernel
theorem dX12_divides_198 : decode cX12_divides 198 = .ok (.iload_n 3, 1) := by decide +kernel
theorem dX12_divides_199 : decode cX12_divides 199 = .ok (.ireturn, 1) := by decide +kernel
theorem dX12_takeQuotient_0 : decode cX12_takeQuotient 0 = .ok (.iconst 0, 1) := by decide +kernel
theorem dX12_takeQuotient_1 : decode cX12_takeQuotient 1 = .ok (.istore_n 1, 1) := by decide +kernel
theorem dX12_takeQuotient_2 : decode cX12_takeQuotient 2 = .ok (.iload_n 1, 1) := by decide +kernel
theorem dX12_takeQuotient_3 : decode cX12_takeQuotient 3 = .ok (.bipush 60, 2) := by decide +kernel
theorem dX12_takeQuotient_5 : decode cX12_takeQuotient 5 = .ok (.if_icmp .ge 21, 3) := by decide +kernel
theorem dX12_takeQuotient_8 : decode cX12_takeQuotient 8 = .ok (.aload_n 0, 1) := by decide +kernel
theorem dX12_takeQuotient_9 : decode cX12_takeQuotient 9 = .ok (.getfield 29, 3) := by decide +kernel
theorem dX12_takeQuotient_12 : decode cX12_takeQuotient 12 = .ok (.iload_n 1, 1) := by decide +kernel
theorem dX12_takeQuotient_13 : decode cX12_takeQuotient 13 = .ok (.aload_n 0, 1) := by decide +kernel
theorem dX12_takeQuotient_14 : decode cX12_takeQuotient 14 = .ok (.getfield 36, 3) := by decide +kernel
theorem dX12_takeQuotient_17 : decode cX12_takeQuotient 17 = .ok (.iload_n 1, 1) := by decide +kernel
theorem dX12_takeQuotient_18 : decode cX12_takeQuotient 18 = .ok (.laload, 1) := by decide +kernel
theorem dX12_takeQuotient_19 : decode cX12_takeQuotient 19 = .ok (.lastore, 1) := by decide +kernel
theorem dX12_takeQuotient_20 : decode cX12_takeQuotient 20 = .ok (.iinc 1 1, 3) := by decide +kernel
theorem dX12_takeQuotient_23 : decode cX12_takeQuotient 23 = .ok (.goto (-21), 3) := by decide +kernel
theorem dX12_takeQuotient_26 : decode cX12_takeQuotient 26 = .ok (.aload_n 0, 1) := by decide +kernel
theorem dX12_takeQuotient_27 : decode cX12_takeQuotient 27 = .ok (.invokevirtual 132, 3) := by decide +kernel
theorem dX12_takeQuotient_30 : decode cX12_takeQuotient 30 = .ok (.return_, 1) := by decide +kernel
theorem dX12_takeCircle_0 : decode cX12_takeCircle 0 = .ok (.aload_n 0, 1) := by decide +kernel
theorem dX12_takeCircle_1 : decode cX12_takeCircle 1 = .ok (.iload_n 1, 1) := by decide +kernel
theorem dX12_takeCircle_2 : decode cX12_takeCircle 2 = .ok (.ifCond .ne 7, 3) := by decide +kernel
theorem dX12_takeCircle_5 : decode cX12_takeCircle 5 = .ok (.iconst 1, 1) := by decide +kernel
theorem dX12_takeCircle_6 : decode cX12_takeCircle 6 = .ok (.goto 12, 3) := by decide +kernel
theorem dX12_takeCircle_9 : decode cX12_takeCircle 9 = .ok (.aload_n 0, 1) := by decide +kernel
theorem dX12_takeCircle_10 : decode cX12_takeCircle 10 = .ok (.getfield 42, 3) := by decide +kernel
theorem dX12_takeCircle_13 : decode cX12_takeCircle 13 = .ok (.bipush 14, 2) := by decide +kernel
theorem dX12_takeCircle_15 : decode cX12_takeCircle 15 = .ok (.iload_n 1, 1) := by decide +kernel
theorem dX12_takeCircle_16 : decode cX12_takeCircle 16 = .ok (.imul, 1) := by decide +kernel
theorem dX12_takeCircle_17 : decode cX12_takeCircle 17 = .ok (.iaload, 1) := by decide +kernel
theorem dX12_takeCircle_18 : decode cX12_takeCircle 18 = .ok (.putfield 143, 3) := by decide +kernel
theorem dX12_takeCircle_21 : decode cX12_takeCircle 21 = .ok (.iconst 0, 1) := by decide +kernel
theorem dX12_takeCircle_22 : decode cX12_takeCircle 22 = .ok (.istore_n 2, 1) := by decide +kernel
theorem dX12_takeCircle_23 : decode cX12_takeCircle 23 = .ok (.iload_n 2, 1) := by decide +kernel
theorem dX12_takeCircle_24 : decode cX12_takeCircle 24 = .ok (.bipush 12, 2) := by decide +kernel
theorem dX12_takeCircle_26 : decode cX12_takeCircle 26 = .ok (.if_icmp .gt 46, 3) := by decide +kernel
theorem dX12_takeCircle_29 : decode cX12_takeCircle 29 = .ok (.aload_n 0, 1) := by decide +kernel
theorem dX12_takeCircle_30 : decode cX12_takeCircle 30 = .ok (.getfield 33, 3) := by decide +kernel
theorem dX12_takeCircle_33 : decode cX12_takeCircle 33 = .ok (.iload_n 2, 1) := by decide +kernel
theorem dX12_takeCircle_34 : decode cX12_takeCircle 34 = .ok (.iload_n 1, 1) := by decide +kernel
theorem dX12_takeCircle_35 : decode cX12_takeCircle 35 = .ok (.ifCond .ne 16, 3) := by decide +kernel
theorem dX12_takeCircle_38 : decode cX12_takeCircle 38 = .ok (.iload_n 2, 1) := by decide +kernel
theorem dX12_takeCircle_39 : decode cX12_takeCircle 39 = .ok (.iconst 1, 1) := by decide +kernel
theorem dX12_takeCircle_40 : decode cX12_takeCircle 40 = .ok (.if_icmp .ne 7, 3) := by decide +kernel
theorem dX12_takeCircle_43 : decode cX12_takeCircle 43 = .ok (.lconst 1, 1) := by decide +kernel
theorem dX12_takeCircle_44 : decode cX12_takeCircle 44 = .ok (.goto 21, 3) := by decide +kernel
theorem dX12_takeCircle_47 : decode cX12_takeCircle 47 = .ok (.lconst 0, 1) := by decide +kernel
theorem dX12_takeCircle_48 : decode cX12_takeCircle 48 = .ok (.goto 17, 3) := by decide +kernel
theorem dX12_takeCircle_51 : decode cX12_takeCircle 51 = .ok (.aload_n 0, 1) := by decide +kernel
theorem dX12_takeCircle_52 : decode cX12_takeCircle 52 = .ok (.getfield 42, 3) := by decide +kernel
theorem dX12_takeCircle_55 : decode cX12_takeCircle 55 = .ok (.bipush 14, 2) := by decide +kernel
theorem dX12_takeCircle_57 : decode cX12_takeCircle 57 = .ok (.iload_n 1, 1) := by decide +kernel
theorem dX12_takeCircle_58 : decode cX12_takeCircle 58 = .ok (.imul, 1) := by decide +kernel
theorem dX12_takeCircle_59 : decode cX12_takeCircle 59 = .ok (.iconst 1, 1) := by decide +kernel
theorem dX12_takeCircle_60 : decode cX12_takeCircle 60 = .ok (.iadd, 1) := by decide +kernel
theorem dX12_takeCircle_61 : decode cX12_takeCircle 61 = .ok (.iload_n 2, 1) := by decide +kernel
theorem dX12_takeCircle_62 : decode cX12_takeCircle 62 = .ok (.iadd, 1) := by decide +kernel
theorem dX12_takeCircle_63 : decode cX12_takeCircle 63 = .ok (.iaload, 1) := by decide +kernel
theorem dX12_takeCircle_64 : decode cX12_takeCircle 64 = .ok (.i2l, 1) := by decide +kernel
theorem dX12_takeCircle_65 : decode cX12_takeCircle 65 = .ok (.lastore, 1) := by decide +kernel
theorem dX12_takeCircle_66 : decode cX12_takeCircle 66 = .ok (.iinc 2 1, 3) := by decide +kernel
theorem dX12_takeCircle_69 : decode cX12_takeCircle 69 = .ok (.goto (-46), 3) := by decide +kernel
theorem dX12_takeCircle_72 : decode cX12_takeCircle 72 = .ok (.return_, 1) := by decide +kernel
theorem dX12_common_0 : decode cX12_common 0 = .ok (.iload_n 0, 1) := by decide +kernel
theorem dX12_common_1 : decode cX12_common 1 = .ok (.ifCond .ge 8, 3) := by decide +kernel
theorem dX12_common_4 : decode cX12_common 4 = .ok (.iload_n 0, 1) := by decide +kernel
theorem dX12_common_5 : decode cX12_common 5 = .ok (.ineg, 1) := by decide +kernel
theorem dX12_common_6 : decode cX12_common 6 = .ok (.goto 4, 3) := by decide +kernel
theorem dX12_common_9 : decode cX12_common 9 = .ok (.iload_n 0, 1) := by decide +kernel
theorem dX12_common_10 : decode cX12_common 10 = .ok (.istore_n 2, 1) := by decide +kernel
theorem dX12_common_11 : decode cX12_common 11 = .ok (.iload_n 1, 1) := by decide +kernel
theorem dX12_common_12 : decode cX12_common 12 = .ok (.ifCond .ge 8, 3) := by decide +kernel
theorem dX12_common_15 : decode cX12_common 15 = .ok (.iload_n 1, 1) := by decide +kernel
theorem dX12_common_16 : decode cX12_common 16 = .ok (.ineg, 1) := by decide +kernel
theorem dX12_common_17 : decode cX12_common 17 = .ok (.goto 4, 3) := by decide +kernel
theorem dX12_common_20 : decode cX12_common 20 = .ok (.iload_n 1, 1) := by decide +kernel
theorem dX12_common_21 : decode cX12_common 21 = .ok (.istore_n 3, 1) := by decide +kernel
theorem dX12_common_22 : decode cX12_common 22 = .ok (.iload_n 3, 1) := by decide +kernel
theorem dX12_common_23 : decode cX12_common 23 = .ok (.ifCond .eq 16, 3) := by decide +kernel
theorem dX12_common_26 : decode cX12_common 26 = .ok (.iload_n 2, 1) := by decide +kernel
theorem dX12_common_27 : decode cX12_common 27 = .ok (.iload_n 3, 1) := by decide +kernel
theorem dX12_common_28 : decode cX12_common 28 = .ok (.irem, 1) := by decide +kernel
theorem dX12_common_29 : decode cX12_common 29 = .ok (.istore 4, 2) := by decide +kernel
theorem dX12_common_31 : decode cX12_common 31 = .ok (.iload_n 3, 1) := by decide +kernel
theorem dX12_common_32 : decode cX12_common 32 = .ok (.istore_n 2, 1) := by decide +kernel
theorem dX12_common_33 : decode cX12_common 33 = .ok (.iload 4, 2) := by decide +kernel
theorem dX12_common_35 : decode cX12_common 35 = .ok (.istore_n 3, 1) := by decide +kernel
theorem dX12_common_36 : decode cX12_common 36 = .ok (.goto (-14), 3) := by decide +kernel
theorem dX12_common_39 : decode cX12_common 39 = .ok (.iload_n 2, 1) := by decide +kernel
theorem dX12_common_40 : decode cX12_common 40 = .ok (.ireturn, 1) := by decide +kernel
theorem dX12_layCyclotomic_0 : decode cX12_layCyclotomic 0 = .ok (.iconst 1, 1) := by decide +kernel
theorem dX12_layCyclotomic_1 : decode cX12_layCyclotomic 1 = .ok (.istore_n 1, 1) := by decide +kernel
theorem dX12_layCyclotomic_2 : decode cX12_layCyclotomic 2 = .ok (.iload_n 1, 1) := by decide +kernel
theorem dX12_layCyclotomic_3 : decode cX12_layCyclotomic 3 = .ok (.bipush 42, 2) := by decide +kernel
theorem dX12_layCyclotomic_5 : decode cX12_layCyclotomic 5 = .ok (.if_icmp .gt 159, 3) := by decide +kernel
theorem dX12_layCyclotomic_8 : decode cX12_layCyclotomic 8 = .ok (.iconst 0, 1) := by decide +kernel
theorem dX12_layCyclotomic_9 : decode cX12_layCyclotomic 9 = .ok (.istore_n 2, 1) := by decide +kernel
theorem dX12_layCyclotomic_10 : decode cX12_layCyclotomic 10 = .ok (.iconst 1, 1) := by decide +kernel
theorem dX12_layCyclotomic_11 : decode cX12_layCyclotomic 11 = .ok (.istore_n 3, 1) := by decide +kernel
theorem dX12_layCyclotomic_12 : decode cX12_layCyclotomic 12 = .ok (.iload_n 3, 1) := by decide +kernel
theorem dX12_layCyclotomic_13 : decode cX12_layCyclotomic 13 = .ok (.iload_n 1, 1) := by decide +kernel
theorem dX12_layCyclotomic_14 : decode cX12_layCyclotomic 14 = .ok (.if_icmp .gt 26, 3) := by decide +kernel
theorem dX12_layCyclotomic_17 : decode cX12_layCyclotomic 17 = .ok (.iload_n 2, 1) := by decide +kernel
theorem dX12_layCyclotomic_18 : decode cX12_layCyclotomic 18 = .ok (.iload_n 3, 1) := by decide +kernel
theorem dX12_layCyclotomic_19 : decode cX12_layCyclotomic 19 = .ok (.iload_n 1, 1) := by decide +kernel
theorem dX12_layCyclotomic_20 : decode cX12_layCyclotomic 20 = .ok (.invokestatic 152, 3) := by decide +kernel
theorem dX12_layCyclotomic_23 : decode cX12_layCyclotomic 23 = .ok (.iconst 1, 1) := by decide +kernel
theorem dX12_layCyclotomic_24 : decode cX12_layCyclotomic 24 = .ok (.if_icmp .ne 7, 3) := by decide +kernel
theorem dX12_layCyclotomic_27 : decode cX12_layCyclotomic 27 = .ok (.iconst 1, 1) := by decide +kernel
theorem dX12_layCyclotomic_28 : decode cX12_layCyclotomic 28 = .ok (.goto 4, 3) := by decide +kernel
theorem dX12_layCyclotomic_31 : decode cX12_layCyclotomic 31 = .ok (.iconst 0, 1) := by decide +kernel
theorem dX12_layCyclotomic_32 : decode cX12_layCyclotomic 32 = .ok (.iadd, 1) := by decide +kernel
theorem dX12_layCyclotomic_33 : decode cX12_layCyclotomic 33 = .ok (.istore_n 2, 1) := by decide +kernel
theorem dX12_layCyclotomic_34 : decode cX12_layCyclotomic 34 = .ok (.iinc 3 1, 3) := by decide +kernel
theorem dX12_layCyclotomic_37 : decode cX12_layCyclotomic 37 = .ok (.goto (-25), 3) := by decide +kernel
theorem dX12_layCyclotomic_40 : decode cX12_layCyclotomic 40 = .ok (.aload_n 0, 1) := by decide +kernel
theorem dX12_layCyclotomic_41 : decode cX12_layCyclotomic 41 = .ok (.getfield 42, 3) := by decide +kernel
theorem dX12_layCyclotomic_44 : decode cX12_layCyclotomic 44 = .ok (.bipush 14, 2) := by decide +kernel
theorem dX12_layCyclotomic_46 : decode cX12_layCyclotomic 46 = .ok (.iload_n 1, 1) := by decide +kernel
theorem dX12_layCyclotomic_47 : decode cX12_layCyclotomic 47 = .ok (.imul, 1) := by decide +kernel
theorem dX12_layCyclotomic_48 : decode cX12_layCyclotomic 48 = .ok (.iload_n 2, 1) := by decide +kernel
theorem dX12_layCyclotomic_49 : decode cX12_layCyclotomic 49 = .ok (.bipush 12, 2) := by decide +kernel
theorem dX12_layCyclotomic_51 : decode cX12_layCyclotomic 51 = .ok (.if_icmp .le 7, 3) := by decide +kernel
theorem dX12_layCyclotomic_54 : decode cX12_layCyclotomic 54 = .ok (.iconst (-1), 1) := by decide +kernel
theorem dX12_layCyclotomic_55 : decode cX12_layCyclotomic 55 = .ok (.goto 4, 3) := by decide +kernel
theorem dX12_layCyclotomic_58 : decode cX12_layCyclotomic 58 = .ok (.iload_n 2, 1) := by decide +kernel
theorem dX12_layCyclotomic_59 : decode cX12_layCyclotomic 59 = .ok (.iastore, 1) := by decide +kernel
theorem dX12_layCyclotomic_60 : decode cX12_layCyclotomic 60 = .ok (.iload_n 2, 1) := by decide +kernel
theorem dX12_layCyclotomic_61 : decode cX12_layCyclotomic 61 = .ok (.bipush 12, 2) := by decide +kernel
theorem dX12_layCyclotomic_63 : decode cX12_layCyclotomic 63 = .ok (.if_icmp .gt 95, 3) := by decide +kernel
theorem dX12_layCyclotomic_66 : decode cX12_layCyclotomic 66 = .ok (.aload_n 0, 1) := by decide +kernel
theorem dX12_layCyclotomic_67 : decode cX12_layCyclotomic 67 = .ok (.invokevirtual 116, 3) := by decide +kernel
theorem dX12_layCyclotomic_70 : decode cX12_layCyclotomic 70 = .ok (.aload_n 0, 1) := by decide +kernel
theorem dX12_layCyclotomic_71 : decode cX12_layCyclotomic 71 = .ok (.getfield 29, 3) := by decide +kernel
theorem dX12_layCyclotomic_74 : decode cX12_layCyclotomic 74 = .ok (.iconst 0, 1) := by decide +kernel
theorem dX12_layCyclotomic_75 : decode cX12_layCyclotomic 75 = .ok (.ldc2_w 155, 3) := by decide +kernel
theorem dX12_layCyclotomic_78 : decode cX12_layCyclotomic 78 = .ok (.lastore, 1) := by decide +kernel
theorem dX12_layCyclotomic_79 : decode cX12_layCyclotomic 79 = .ok (.aload_n 0, 1) := by decide +kernel
theorem dX12_layCyclotomic_80 : decode cX12_layCyclotomic 80 = .ok (.getfield 29, 3) := by decide +kernel
theorem dX12_layCyclotomic_83 : decode cX12_layCyclotomic 83 = .ok (.iload_n 1, 1) := by decide +kernel
theorem dX12_layCyclotomic_84 : decode cX12_layCyclotomic 84 = .ok (.lconst 1, 1) := by decide +kernel
theorem dX12_layCyclotomic_85 : decode cX12_layCyclotomic 85 = .ok (.lastore, 1) := by decide +kernel
theorem dX12_layCyclotomic_86 : decode cX12_layCyclotomic 86 = .ok (.aload_n 0, 1) := by decide +kernel
theorem dX12_layCyclotomic_87 : decode cX12_layCyclotomic 87 = .ok (.iload_n 1, 1) := by decide +kernel
theorem dX12_layCyclotomic_88 : decode cX12_layCyclotomic 88 = .ok (.putfield 113, 3) := by decide +kernel
theorem dX12_layCyclotomic_91 : decode cX12_layCyclotomic 91 = .ok (.iconst 1, 1) := by decide +kernel
theorem dX12_layCyclotomic_92 : decode cX12_layCyclotomic 92 = .ok (.istore_n 3, 1) := by decide +kernel
theorem dX12_layCyclotomic_93 : decode cX12_layCyclotomic 93 = .ok (.iload_n 3, 1) := by decide +kernel
theorem dX12_layCyclotomic_94 : decode cX12_layCyclotomic 94 = .ok (.iload_n 1, 1) := by decide +kernel
theorem dX12_layCyclotomic_95 : decode cX12_layCyclotomic 95 = .ok (.if_icmp .ge 29, 3) := by decide +kernel
theorem dX12_layCyclotomic_98 : decode cX12_layCyclotomic 98 = .ok (.iload_n 1, 1) := by decide +kernel
theorem dX12_layCyclotomic_99 : decode cX12_layCyclotomic 99 = .ok (.iload_n 3, 1) := by decide +kernel
theorem dX12_layCyclotomic_100 : decode cX12_layCyclotomic 100 = .ok (.irem, 1) := by decide +kernel
theorem dX12_layCyclotomic_101 : decode cX12_layCyclotomic 101 = .ok (.ifCond .ne 17, 3) := by decide +kernel
theorem dX12_layCyclotomic_104 : decode cX12_layCyclotomic 104 = .ok (.aload_n 0, 1) := by decide +kernel
theorem dX12_layCyclotomic_105 : decode cX12_layCyclotomic 105 = .ok (.iload_n 3, 1) := by decide +kernel
theorem dX12_layCyclotomic_106 : decode cX12_layCyclotomic 106 = .ok (.invokevirtual 157, 3) := by decide +kernel
theorem dX12_layCyclotomic_109 : decode cX12_layCyclotomic 109 = .ok (.aload_n 0, 1) := by decide +kernel
theorem dX12_layCyclotomic_110 : decode cX12_layCyclotomic 110 = .ok (.invokevirtual 160, 3) := by decide +kernel
theorem dX12_layCyclotomic_113 : decode cX12_layCyclotomic 113 = .ok (.pop, 1) := by decide +kernel
theorem dX12_layCyclotomic_114 : decode cX12_layCyclotomic 114 = .ok (.aload_n 0, 1) := by decide +kernel
theorem dX12_layCyclotomic_115 : decode cX12_layCyclotomic 115 = .ok (.invokevirtual 163, 3) := by decide +kernel
theorem dX12_layCyclotomic_118 : decode cX12_layCyclotomic 118 = .ok (.iinc 3 1, 3) := by decide +kernel
theorem dX12_layCyclotomic_121 : decode cX12_layCyclotomic 121 = .ok (.goto (-28), 3) := by decide +kernel
theorem dX12_layCyclotomic_124 : decode cX12_layCyclotomic 124 = .ok (.iconst 0, 1) := by decide +kernel
theorem dX12_layCyclotomic_125 : decode cX12_layCyclotomic 125 = .ok (.istore_n 3, 1) := by decide +kernel
theorem dX12_layCyclotomic_126 : decode cX12_layCyclotomic 126 = .ok (.iload_n 3, 1) := by decide +kernel
theorem dX12_layCyclotomic_127 : decode cX12_layCyclotomic 127 = .ok (.bipush 12, 2) := by decide +kernel
theorem dX12_layCyclotomic_129 : decode cX12_layCyclotomic 129 = .ok (.if_icmp .gt 29, 3) := by decide +kernel
theorem dX12_layCyclotomic_132 : decode cX12_layCyclotomic 132 = .ok (.aload_n 0, 1) := by decide +kernel
theorem dX12_layCyclotomic_133 : decode cX12_layCyclotomic 133 = .ok (.getfield 42, 3) := by decide +kernel
theorem dX12_layCyclotomic_136 : decode cX12_layCyclotomic 136 = .ok (.bipush 14, 2) := by decide +kernel
theorem dX12_layCyclotomic_138 : decode cX12_layCyclotomic 138 = .ok (.iload_n 1, 1) := by decide +kernel
theorem dX12_layCyclotomic_139 : decode cX12_layCyclotomic 139 = .ok (.imul, 1) := by decide +kernel
theorem dX12_layCyclotomic_140 : decode cX12_layCyclotomic 140 = .ok (.iconst 1, 1) := by decide +kernel
theorem dX12_layCyclotomic_141 : decode cX12_layCyclotomic 141 = .ok (.iadd, 1) := by decide +kernel
theorem dX12_layCyclotomic_142 : decode cX12_layCyclotomic 142 = .ok (.iload_n 3, 1) := by decide +kernel
theorem dX12_layCyclotomic_143 : decode cX12_layCyclotomic 143 = .ok (.iadd, 1) := by decide +kernel
theorem dX12_layCyclotomic_144 : decode cX12_layCyclotomic 144 = .ok (.aload_n 0, 1) := by decide +kernel
theorem dX12_layCyclotomic_145 : decode cX12_layCyclotomic 145 = .ok (.getfield 29, 3) := by decide +kernel
theorem dX12_layCyclotomic_148 : decode cX12_layCyclotomic 148 = .ok (.iload_n 3, 1) := by decide +kernel
theorem dX12_layCyclotomic_149 : decode cX12_layCyclotomic 149 = .ok (.laload, 1) := by decide +kernel
theorem dX12_layCyclotomic_150 : decode cX12_layCyclotomic 150 = .ok (.l2i, 1) := by decide +kernel
theorem dX12_layCyclotomic_151 : decode cX12_layCyclotomic 151 = .ok (.iastore, 1) := by decide +kernel
theorem dX12_layCyclotomic_152 : decode cX12_layCyclotomic 152 = .ok (.iinc 3 1, 3) := by decide +kernel
theorem dX12_layCyclotomic_155 : decode cX12_layCyclotomic 155 = .ok (.goto (-29), 3) := by decide +kernel
theorem dX12_layCyclotomic_158 : decode cX12_layCyclotomic 158 = .ok (.iinc 1 1, 3) := by decide +kernel
theorem dX12_layCyclotomic_161 : decode cX12_layCyclotomic 161 = .ok (.goto (-159), 3) := by decide +kernel
theorem dX12_layCyclotomic_164 : decode cX12_layCyclotomic 164 = .ok (.return_, 1) := by decide +kernel
theorem dX12_isCircle_0 : decode cX12_isCircle 0 = .ok (.iload_n 1, 1) := by decide +kernel
theorem dX12_isCircle_1 : decode cX12_isCircle 1 = .ok (.i2l, 1) := by decide +kernel
theorem dX12_isCircle_2 : decode cX12_isCircle 2 = .ok (.lconst 1, 1) := by decide +kernel
theorem dX12_isCircle_3 : decode cX12_isCircle 3 = .ok (.ldc2_w 166, 3) := by decide +kernel
theorem dX12_isCircle_6 : decode cX12_isCircle 6 = .ok (.invokestatic 103, 3) := by decide +kernel
theorem dX12_isCircle_9 : decode cX12_isCircle 9 = .ok (.ifCond .eq 20, 3) := by decide +kernel
theorem dX12_isCircle_12 : decode cX12_isCircle 12 = .ok (.aload_n 0, 1) := by decide +kernel
theorem dX12_isCircle_13 : decode cX12_isCircle 13 = .ok (.getfield 42, 3) := by decide +kernel
theorem dX12_isCircle_16 : decode cX12_isCircle 16 = .ok (.bipush 14, 2) := by decide +kernel
theorem dX12_isCircle_18 : decode cX12_isCircle 18 = .ok (.iload_n 1, 1) := by decide +kernel
theorem dX12_isCircle_19 : decode cX12_isCircle 19 = .ok (.imul, 1) := by decide +kernel
theorem dX12_isCircle_20 : decode cX12_isCircle 20 = .ok (.iaload, 1) := by decide +kernel
theorem dX12_isCircle_21 : decode cX12_isCircle 21 = .ok (.iconst (-1), 1) := by decide +kernel
theorem dX12_isCircle_22 : decode cX12_isCircle 22 = .ok (.if_icmp .eq 7, 3) := by decide +kernel
theorem dX12_isCircle_25 : decode cX12_isCircle 25 = .ok (.iconst 1, 1) := by decide +kernel
theorem dX12_isCircle_26 : decode cX12_isCircle 26 = .ok (.goto 4, 3) := by decide +kernel
theorem dX12_isCircle_29 : decode cX12_isCircle 29 = .ok (.iconst 0, 1) := by decide +kernel
theorem dX12_isCircle_30 : decode cX12_isCircle 30 = .ok (.ireturn, 1) := by decide +kernel
theorem dX12_cores_0 : decode cX12_cores 0 = .ok (.iconst 0, 1) := by decide +kernel
theorem dX12_cores_1 : decode cX12_cores 1 = .ok (.istore_n 1, 1) := by decide +kernel
theorem dX12_cores_2 : decode cX12_cores 2 = .ok (.iload_n 1, 1) := by decide +kernel
theorem dX12_cores_3 : decode cX12_cores 3 = .ok (.bipush 42, 2) := by decide +kernel
theorem dX12_cores_5 : decode cX12_cores 5 = .ok (.if_icmp .gt 51, 3) := by decide +kernel
theorem dX12_cores_8 : decode cX12_cores 8 = .ok (.iload_n 1, 1) := by decide +kernel
theorem dX12_cores_9 : decode cX12_cores 9 = .ok (.ifCond .eq 11, 3) := by decide +kernel
theorem dX12_cores_12 : decode cX12_cores 12 = .ok (.aload_n 0, 1) := by decide +kernel
theorem dX12_cores_13 : decode cX12_cores 13 = .ok (.iload_n 1, 1) := by decide +kernel
theorem dX12_cores_14 : decode cX12_cores 14 = .ok (.invokevirtual 168, 3) := by decide +kernel
theorem dX12_cores_17 : decode cX12_cores 17 = .ok (.ifCond .eq 33, 3) := by decide +kernel
theorem dX12_cores_20 : decode cX12_cores 20 = .ok (.aload_n 0, 1) := by decide +kernel
theorem dX12_cores_21 : decode cX12_cores 21 = .ok (.iload_n 1, 1) := by decide +kernel
theorem dX12_cores_22 : decode cX12_cores 22 = .ok (.invokevirtual 157, 3) := by decide +kernel
theorem dX12_cores_25 : decode cX12_cores 25 = .ok (.aload_n 0, 1) := by decide +kernel
theorem dX12_cores_26 : decode cX12_cores 26 = .ok (.getfield 113, 3) := by decide +kernel
theorem dX12_cores_29 : decode cX12_cores 29 = .ok (.aload_n 0, 1) := by decide +kernel
theorem dX12_cores_30 : decode cX12_cores 30 = .ok (.getfield 143, 3) := by decide +kernel
theorem dX12_cores_33 : decode cX12_cores 33 = .ok (.if_icmp .lt 17, 3) := by decide +kernel
theorem dX12_cores_36 : decode cX12_cores 36 = .ok (.aload_n 0, 1) := by decide +kernel
theorem dX12_cores_37 : decode cX12_cores 37 = .ok (.invokevirtual 160, 3) := by decide +kernel
theorem dX12_cores_40 : decode cX12_cores 40 = .ok (.ifCond .eq 10, 3) := by decide +kernel
theorem dX12_cores_43 : decode cX12_cores 43 = .ok (.aload_n 0, 1) := by decide +kernel
theorem dX12_cores_44 : decode cX12_cores 44 = .ok (.invokevirtual 163, 3) := by decide +kernel
theorem dX12_cores_47 : decode cX12_cores 47 = .ok (.goto (-22), 3) := by decide +kernel
theorem dX12_cores_50 : decode cX12_cores 50 = .ok (.iinc 1 1, 3) := by decide +kernel
theorem dX12_cores_53 : decode cX12_cores 53 = .ok (.goto (-51), 3) := by decide +kernel
theorem dX12_cores_56 : decode cX12_cores 56 = .ok (.aload_n 0, 1) := by decide +kernel
theorem dX12_cores_57 : decode cX12_cores 57 = .ok (.getfield 29, 3) := by decide +kernel
theorem dX12_cores_60 : decode cX12_cores 60 = .ok (.aload_n 0, 1) := by decide +kernel
theorem dX12_cores_61 : decode cX12_cores 61 = .ok (.getfield 113, 3) := by decide +kernel
theorem dX12_cores_64 : decode cX12_cores 64 = .ok (.laload, 1) := by decide +kernel
theorem dX12_cores_65 : decode cX12_cores 65 = .ok (.lconst 0, 1) := by decide +kernel
theorem dX12_cores_66 : decode cX12_cores 66 = .ok (.lcmp, 1) := by decide +kernel
theorem dX12_cores_67 : decode cX12_cores 67 = .ok (.ifCond .ge 30, 3) := by decide +kernel
theorem dX12_cores_70 : decode cX12_cores 70 = .ok (.iconst 0, 1) := by decide +kernel
theorem dX12_cores_71 : decode cX12_cores 71 = .ok (.istore_n 1, 1) := by decide +kernel
theorem dX12_cores_72 : decode cX12_cores 72 = .ok (.iload_n 1, 1) := by decide +kernel
theorem dX12_cores_73 : decode cX12_cores 73 = .ok (.bipush 60, 2) := by decide +kernel
theorem dX12_cores_75 : decode cX12_cores 75 = .ok (.if_icmp .ge 22, 3) := by decide +kernel
theorem dX12_cores_78 : decode cX12_cores 78 = .ok (.aload_n 0, 1) := by decide +kernel
theorem dX12_cores_79 : decode cX12_cores 79 = .ok (.getfield 29, 3) := by decide +kernel
theorem dX12_cores_82 : decode cX12_cores 82 = .ok (.iload_n 1, 1) := by decide +kernel
theorem dX12_cores_83 : decode cX12_cores 83 = .ok (.aload_n 0, 1) := by decide +kernel
theorem dX12_cores_84 : decode cX12_cores 84 = .ok (.getfield 29, 3) := by decide +kernel
theorem dX12_cores_87 : decode cX12_cores 87 = .ok (.iload_n 1, 1) := by decide +kernel
theorem dX12_cores_88 : decode cX12_cores 88 = .ok (.laload, 1) := by decide +kernel
theorem dX12_cores_89 : decode cX12_cores 89 = .ok (.lneg, 1) := by decide +kernel
theorem dX12_cores_90 : decode cX12_cores 90 = .ok (.lastore, 1) := by decide +kernel
theorem dX12_cores_91 : decode cX12_cores 91 = .ok (.iinc 1 1, 3) := by decide +kernel
theorem dX12_cores_94 : decode cX12_cores 94 = .ok (.goto (-22), 3) := by decide +kernel
theorem dX12_cores_97 : decode cX12_cores 97 = .ok (.return_, 1) := by decide +kernel
theorem dX12_isOne_0 : decode cX12_isOne 0 = .ok (.aload_n 0, 1) := by decide +kernel
theorem dX12_isOne_1 : decode cX12_isOne 1 = .ok (.invokevirtual 172, 3) := by decide +kernel
theorem dX12_isOne_4 : decode cX12_isOne 4 = .ok (.aload_n 0, 1) := by decide +kernel
theorem dX12_isOne_5 : decode cX12_isOne 5 = .ok (.getfield 113, 3) := by decide +kernel
theorem dX12_isOne_8 : decode cX12_isOne 8 = .ok (.ifCond .ne 18, 3) := by decide +kernel
theorem dX12_isOne_11 : decode cX12_isOne 11 = .ok (.aload_n 0, 1) := by decide +kernel
theorem dX12_isOne_12 : decode cX12_isOne 12 = .ok (.getfield 29, 3) := by decide +kernel
theorem dX12_isOne_15 : decode cX12_isOne 15 = .ok (.iconst 0, 1) := by decide +kernel
theorem dX12_isOne_16 : decode cX12_isOne 16 = .ok (.laload, 1) := by decide +kernel
theorem dX12_isOne_17 : decode cX12_isOne 17 = .ok (.lconst 1, 1) := by decide +kernel
theorem dX12_isOne_18 : decode cX12_isOne 18 = .ok (.lcmp, 1) := by decide +kernel
theorem dX12_isOne_19 : decode cX12_isOne 19 = .ok (.ifCond .ne 7, 3) := by decide +kernel
theorem dX12_isOne_22 : decode cX12_isOne 22 = .ok (.iconst 1, 1) := by decide +kernel
theorem dX12_isOne_23 : decode cX12_isOne 23 = .ok (.goto 4, 3) := by decide +kernel
theorem dX12_isOne_26 : decode cX12_isOne 26 = .ok (.iconst 0, 1) := by decide +kernel
theorem dX12_isOne_27 : decode cX12_isOne 27 = .ok (.ireturn, 1) := by decide +kernel
theorem dX12_times_0 : decode cX12_times 0 = .ok (.lload_n 1, 1) := by decide +kernel
theorem dX12_times_1 : decode cX12_times 1 = .ok (.lload_n 3, 1) := by decide +kernel
theorem dX12_times_2 : decode cX12_times 2 = .ok (.lmul, 1) := by decide +kernel
theorem dX12_times_3 : decode cX12_times 3 = .ok (.lstore 5, 2) := by decide +kernel
theorem dX12_times_5 : decode cX12_times 5 = .ok (.lload_n 1, 1) := by decide +kernel
theorem dX12_times_6 : decode cX12_times 6 = .ok (.lconst 0, 1) := by decide +kernel
theorem dX12_times_7 : decode cX12_times 7 = .ok (.lcmp, 1) := by decide +kernel
theorem dX12_times_8 : decode cX12_times 8 = .ok (.ifCond .eq 32, 3) := by decide +kernel
theorem dX12_times_11 : decode cX12_times 11 = .ok (.lload 5, 2) := by decide +kernel
theorem dX12_times_13 : decode cX12_times 13 = .ok (.lload_n 1, 1) := by decide +kernel
theorem dX12_times_14 : decode cX12_times 14 = .ok (.ldiv, 1) := by decide +kernel
theorem dX12_times_15 : decode cX12_times 15 = .ok (.lload_n 3, 1) := by decide +kernel
theorem dX12_times_16 : decode cX12_times 16 = .ok (.lcmp, 1) := by decide +kernel
theorem dX12_times_17 : decode cX12_times 17 = .ok (.ifCond .ne 19, 3) := by decide +kernel
theorem dX12_times_20 : decode cX12_times 20 = .ok (.lload_n 1, 1) := by decide +kernel
theorem dX12_times_21 : decode cX12_times 21 = .ok (.ldc2_w 155, 3) := by decide +kernel
theorem dX12_times_24 : decode cX12_times 24 = .ok (.lcmp, 1) := by decide +kernel
theorem dX12_times_25 : decode cX12_times 25 = .ok (.ifCond .ne 15, 3) := by decide +kernel
theorem dX12_times_28 : decode cX12_times 28 = .ok (.lload_n 3, 1) := by decide +kernel
theorem dX12_times_29 : decode cX12_times 29 = .ok (.ldc2_w 177, 3) := by decide +kernel
theorem dX12_times_32 : decode cX12_times 32 = .ok (.lcmp, 1) := by decide +kernel
theorem dX12_times_33 : decode cX12_times 33 = .ok (.ifCond .ne 7, 3) := by decide +kernel
theorem dX12_times_36 : decode cX12_times 36 = .ok (.iconst 1, 1) := by decide +kernel
theorem dX12_times_37 : decode cX12_times 37 = .ok (.goto 4, 3) := by decide +kernel
theorem dX12_times_40 : decode cX12_times 40 = .ok (.iconst 0, 1) := by decide +kernel
theorem dX12_times_41 : decode cX12_times 41 = .ok (.istore 7, 2) := by decide +kernel
theorem dX12_times_43 : decode cX12_times 43 = .ok (.aload_n 0, 1) := by decide +kernel
theorem dX12_times_44 : decode cX12_times 44 = .ok (.aload_n 0, 1) := by decide +kernel
theorem dX12_times_45 : decode cX12_times 45 = .ok (.getfield 179, 3) := by decide +kernel
theorem dX12_times_48 : decode cX12_times 48 = .ok (.ifCond .ne 8, 3) := by decide +kernel
theorem dX12_times_51 : decode cX12_times 51 = .ok (.iload 7, 2) := by decide +kernel
theorem dX12_times_53 : decode cX12_times 53 = .ok (.ifCond .eq 7, 3) := by decide +kernel
theorem dX12_times_56 : decode cX12_times 56 = .ok (.iconst 1, 1) := by decide +kernel
theorem dX12_times_57 : decode cX12_times 57 = .ok (.goto 4, 3) := by decide +kernel
theorem dX12_times_60 : decode cX12_times 60 = .ok (.iconst 0, 1) := by decide +kernel
theorem dX12_times_61 : decode cX12_times 61 = .ok (.putfield 179, 3) := by decide +kernel
theorem dX12_times_64 : decode cX12_times 64 = .ok (.lload 5, 2) := by decide +kernel
theorem dX12_times_66 : decode cX12_times 66 = .ok (.lreturn, 1) := by decide +kernel
theorem dX12_plus_0 : decode cX12_plus 0 = .ok (.lload_n 1, 1) := by decide +kernel
theorem dX12_plus_1 : decode cX12_plus 1 = .ok (.lload_n 3, 1) := by decide +kernel
theorem dX12_plus_2 : decode cX12_plus 2 = .ok (.ladd, 1) := by decide +kernel
theorem dX12_plus_3 : decode cX12_plus 3 = .ok (.lstore 5, 2) := by decide +kernel
theorem dX12_plus_5 : decode cX12_plus 5 = .ok (.aload_n 0, 1) := by decide +kernel
theorem dX12_plus_6 : decode cX12_plus 6 = .ok (.aload_n 0, 1) := by decide +kernel
theorem dX12_plus_7 : decode cX12_plus 7 = .ok (.getfield 179, 3) := by decide +kernel
theorem dX12_plus_10 : decode cX12_plus 10 = .ok (.ifCond .ne 54, 3) := by decide +kernel
theorem dX12_plus_13 : decode cX12_plus 13 = .ok (.lload_n 1, 1) := by decide +kernel
theorem dX12_plus_14 : decode cX12_plus 14 = .ok (.lconst 0, 1) := by decide +kernel
theorem dX12_plus_15 : decode cX12_plus 15 = .ok (.lcmp, 1) := by decide +kernel
theorem dX12_plus_16 : decode cX12_plus 16 = .ok (.ifCond .lt 7, 3) := by decide +kernel
theorem dX12_plus_19 : decode cX12_plus 19 = .ok (.iconst 1, 1) := by decide +kernel
theorem dX12_plus_20 : decode cX12_plus 20 = .ok (.goto 4, 3) := by decide +kernel
theorem dX12_plus_23 : decode cX12_plus 23 = .ok (.iconst 0, 1) := by decide +kernel
theorem dX12_plus_24 : decode cX12_plus 24 = .ok (.lload_n 3, 1) := by decide +kernel
theorem dX12_plus_25 : decode cX12_plus 25 = .ok (.lconst 0, 1) := by decide +kernel
theorem dX12_plus_26 : decode cX12_plus 26 = .ok (.lcmp, 1) := by decide +kernel
theorem dX12_plus_27 : decode cX12_plus 27 = .ok (.ifCond .lt 7, 3) := by decide +kernel
theorem dX12_plus_30 : decode cX12_plus 30 = .ok (.iconst 1, 1) := by decide +kernel
theorem dX12_plus_31 : decode cX12_plus 31 = .ok (.goto 4, 3) := by decide +kernel
theorem dX12_plus_34 : decode cX12_plus 34 = .ok (.iconst 0, 1) := by decide +kernel
theorem dX12_plus_35 : decode cX12_plus 35 = .ok (.if_icmp .ne 33, 3) := by decide +kernel
theorem dX12_plus_38 : decode cX12_plus 38 = .ok (.lload 5, 2) := by decide +kernel
theorem dX12_plus_40 : decode cX12_plus 40 = .ok (.lconst 0, 1) := by decide +kernel
theorem dX12_plus_41 : decode cX12_plus 41 = .ok (.lcmp, 1) := by decide +kernel
theorem dX12_plus_42 : decode cX12_plus 42 = .ok (.ifCond .lt 7, 3) := by decide +kernel
theorem dX12_plus_45 : decode cX12_plus 45 = .ok (.iconst 1, 1) := by decide +kernel
theorem dX12_plus_46 : decode cX12_plus 46 = .ok (.goto 4, 3) := by decide +kernel
theorem dX12_plus_49 : decode cX12_plus 49 = .ok (.iconst 0, 1) := by decide +kernel
theorem dX12_plus_50 : decode cX12_plus 50 = .ok (.lload_n 1, 1) := by decide +kernel
theorem dX12_plus_51 : decode cX12_plus 51 = .ok (.lconst 0, 1) := by decide +kernel
theorem dX12_plus_52 : decode cX12_plus 52 = .ok (.lcmp, 1) := by decide +kernel
theorem dX12_plus_53 : decode cX12_plus 53 = .ok (.ifCond .lt 7, 3) := by decide +kernel
theorem dX12_plus_56 : decode cX12_plus 56 = .ok (.iconst 1, 1) := by decide +kernel
theorem dX12_plus_57 : decode cX12_plus 57 = .ok (.goto 4, 3) := by decide +kernel
theorem dX12_plus_60 : decode cX12_plus 60 = .ok (.iconst 0, 1) := by decide +kernel
theorem dX12_plus_61 : decode cX12_plus 61 = .ok (.if_icmp .eq 7, 3) := by decide +kernel
theorem dX12_plus_64 : decode cX12_plus 64 = .ok (.iconst 1, 1) := by decide +kernel
theorem dX12_plus_65 : decode cX12_plus 65 = .ok (.goto 4, 3) := by decide +kernel
theorem dX12_plus_68 : decode cX12_plus 68 = .ok (.iconst 0, 1) := by decide +kernel
theorem dX12_plus_69 : decode cX12_plus 69 = .ok (.putfield 179, 3) := by decide +kernel
theorem dX12_plus_72 : decode cX12_plus 72 = .ok (.lload 5, 2) := by decide +kernel
theorem dX12_plus_74 : decode cX12_plus 74 = .ok (.lreturn, 1) := by decide +kernel
theorem dX12_minus_0 : decode cX12_minus 0 = .ok (.lload_n 1, 1) := by decide +kernel
theorem dX12_minus_1 : decode cX12_minus 1 = .ok (.lload_n 3, 1) := by decide +kernel
theorem dX12_minus_2 : decode cX12_minus 2 = .ok (.lsub, 1) := by decide +kernel
theorem dX12_minus_3 : decode cX12_minus 3 = .ok (.lstore 5, 2) := by decide +kernel
theorem dX12_minus_5 : decode cX12_minus 5 = .ok (.aload_n 0, 1) := by decide +kernel
theorem dX12_minus_6 : decode cX12_minus 6 = .ok (.aload_n 0, 1) := by decide +kernel
theorem dX12_minus_7 : decode cX12_minus 7 = .ok (.getfield 179, 3) := by decide +kernel
theorem dX12_minus_10 : decode cX12_minus 10 = .ok (.ifCond .ne 54, 3) := by decide +kernel
theorem dX12_minus_13 : decode cX12_minus 13 = .ok (.lload_n 1, 1) := by decide +kernel
theorem dX12_minus_14 : decode cX12_minus 14 = .ok (.lconst 0, 1) := by decide +kernel
theorem dX12_minus_15 : decode cX12_minus 15 = .ok (.lcmp, 1) := by decide +kernel
theorem dX12_minus_16 : decode cX12_minus 16 = .ok (.ifCond .lt 7, 3) := by decide +kernel
theorem dX12_minus_19 : decode cX12_minus 19 = .ok (.iconst 1, 1) := by decide +kernel
theorem dX12_minus_20 : decode cX12_minus 20 = .ok (.goto 4, 3) := by decide +kernel
theorem dX12_minus_23 : decode cX12_minus 23 = .ok (.iconst 0, 1) := by decide +kernel
theorem dX12_minus_24 : decode cX12_minus 24 = .ok (.lload_n 3, 1) := by decide +kernel
theorem dX12_minus_25 : decode cX12_minus 25 = .ok (.lconst 0, 1) := by decide +kernel
theorem dX12_minus_26 : decode cX12_minus 26 = .ok (.lcmp, 1) := by decide +kernel
theorem dX12_minus_27 : decode cX12_minus 27 = .ok (.ifCond .lt 7, 3) := by decide +kernel
theorem dX12_minus_30 : decode cX12_minus 30 = .ok (.iconst 1, 1) := by decide +kernel
theorem dX12_minus_31 : decode cX12_minus 31 = .ok (.goto 4, 3) := by decide +kernel
theorem dX12_minus_34 : decode cX12_minus 34 = .ok (.iconst 0, 1) := by decide +kernel
theorem dX12_minus_35 : decode cX12_minus 35 = .ok (.if_icmp .eq 33, 3) := by decide +kernel
theorem dX12_minus_38 : decode cX12_minus 38 = .ok (.lload 5, 2) := by decide +kernel
theorem dX12_minus_40 : decode cX12_minus 40 = .ok (.lconst 0, 1) := by decide +kernel
theorem dX12_minus_41 : decode cX12_minus 41 = .ok (.lcmp, 1) := by decide +kernel
theorem dX12_minus_42 : decode cX12_minus 42 = .ok (.ifCond .lt 7, 3) := by decide +kernel
theorem dX12_minus_45 : decode cX12_minus 45 = .ok (.iconst 1, 1) := by decide +kernel
theorem dX12_minus_46 : decode cX12_minus 46 = .ok (.goto 4, 3) := by decide +kernel
theorem dX12_minus_49 : decode cX12_minus 49 = .ok (.iconst 0, 1) := by decide +kernel
theorem dX12_minus_50 : decode cX12_minus 50 = .ok (.lload_n 1, 1) := by decide +kernel
theorem dX12_minus_51 : decode cX12_minus 51 = .ok (.lconst 0, 1) := by decide +kernel
theorem dX12_minus_52 : decode cX12_minus 52 = .ok (.lcmp, 1) := by decide +kernel
theorem dX12_minus_53 : decode cX12_minus 53 = .ok (.ifCond .lt 7, 3) := by decide +kernel
theorem dX12_minus_56 : decode cX12_minus 56 = .ok (.iconst 1, 1) := by decide +kernel
theorem dX12_minus_57 : decode cX12_minus 57 = .ok (.goto 4, 3) := by decide +kernel
theorem dX12_minus_60 : decode cX12_minus 60 = .ok (.iconst 0, 1) := by decide +kernel
theorem dX12_minus_61 : decode cX12_minus 61 = .ok (.if_icmp .eq 7, 3) := by decide +kernel
theorem dX12_minus_64 : decode cX12_minus 64 = .ok (.iconst 1, 1) := by decide +kernel
theorem dX12_minus_65 : decode cX12_minus 65 = .ok (.goto 4, 3) := by decide +kernel
theorem dX12_minus_68 : decode cX12_minus 68 = .ok (.iconst 0, 1) := by decide +kernel
theorem dX12_minus_69 : decode cX12_minus 69 = .ok (.putfield 179, 3) := by decide +kernel
theorem dX12_minus_72 : decode cX12_minus 72 = .ok (.lload 5, 2) := by decide +kernel
theorem dX12_minus_74 : decode cX12_minus 74 = .ok (.lreturn, 1) := by decide +kernel
theorem dX12_squares_0 : decode cX12_squares 0 = .ok (.aload_n 0, 1) := by decide +kernel
theorem dX12_squares_1 : decode cX12_squares 1 = .ok (.getfield 183, 3) := by decide +kernel
theorem dX12_squares_4 : decode cX12_squares 4 = .ok (.istore_n 2, 1) := by decide +kernel
theorem dX12_squares_5 : decode cX12_squares 5 = .ok (.iconst 0, 1) := by decide +kernel
theorem dX12_squares_6 : decode cX12_squares 6 = .ok (.istore_n 3, 1) := by decide +kernel
theorem dX12_squares_7 : decode cX12_squares 7 = .ok (.iload_n 3, 1) := by decide +kernel
theorem dX12_squares_8 : decode cX12_squares 8 = .ok (.iload_n 2, 1) := by decide +kernel
theorem dX12_squares_9 : decode cX12_squares 9 = .ok (.if_icmp .gt 122, 3) := by decide +kernel
theorem dX12_squares_12 : decode cX12_squares 12 = .ok (.lconst 0, 1) := by decide +kernel
theorem dX12_squares_13 : decode cX12_squares 13 = .ok (.lstore 4, 2) := by decide +kernel
theorem dX12_squares_15 : decode cX12_squares 15 = .ok (.iconst 0, 1) := by decide +kernel
theorem dX12_squares_16 : decode cX12_squares 16 = .ok (.istore 6, 2) := by decide +kernel
theorem dX12_squares_18 : decode cX12_squares 18 = .ok (.iload 6, 2) := by decide +kernel
theorem dX12_squares_20 : decode cX12_squares 20 = .ok (.iload_n 2, 1) := by decide +kernel
theorem dX12_squares_21 : decode cX12_squares 21 = .ok (.if_icmp .gt 89, 3) := by decide +kernel
theorem dX12_squares_24 : decode cX12_squares 24 = .ok (.iconst 2, 1) := by decide +kernel
theorem dX12_squares_25 : decode cX12_squares 25 = .ok (.iload_n 3, 1) := by decide +kernel
theorem dX12_squares_26 : decode cX12_squares 26 = .ok (.imul, 1) := by decide +kernel
theorem dX12_squares_27 : decode cX12_squares 27 = .ok (.iload 6, 2) := by decide +kernel
theorem dX12_squares_29 : decode cX12_squares 29 = .ok (.isub, 1) := by decide +kernel
theorem dX12_squares_30 : decode cX12_squares 30 = .ok (.istore 7, 2) := by decide +kernel
theorem dX12_squares_32 : decode cX12_squares 32 = .ok (.iload 7, 2) := by decide +kernel
theorem dX12_squares_34 : decode cX12_squares 34 = .ok (.i2l, 1) := by decide +kernel
theorem dX12_squares_35 : decode cX12_squares 35 = .ok (.lconst 0, 1) := by decide +kernel
theorem dX12_squares_36 : decode cX12_squares 36 = .ok (.iload_n 2, 1) := by decide +kernel
theorem dX12_squares_37 : decode cX12_squares 37 = .ok (.i2l, 1) := by decide +kernel
theorem dX12_squares_38 : decode cX12_squares 38 = .ok (.invokestatic 103, 3) := by decide +kernel
theorem dX12_squares_41 : decode cX12_squares 41 = .ok (.ifCond .eq 63, 3) := by decide +kernel
theorem dX12_squares_44 : decode cX12_squares 44 = .ok (.aload_n 0, 1) := by decide +kernel
theorem dX12_squares_45 : decode cX12_squares 45 = .ok (.aload_n 0, 1) := by decide +kernel
theorem dX12_squares_46 : decode cX12_squares 46 = .ok (.getfield 45, 3) := by decide +kernel
theorem dX12_squares_49 : decode cX12_squares 49 = .ok (.bipush 13, 2) := by decide +kernel
theorem dX12_squares_51 : decode cX12_squares 51 = .ok (.iload_n 1, 1) := by decide +kernel
theorem dX12_squares_52 : decode cX12_squares 52 = .ok (.imul, 1) := by decide +kernel
theorem dX12_squares_53 : decode cX12_squares 53 = .ok (.iload 6, 2) := by decide +kernel
theorem dX12_squares_55 : decode cX12_squares 55 = .ok (.iadd, 1) := by decide +kernel
theorem dX12_squares_56 : decode cX12_squares 56 = .ok (.laload, 1) := by decide +kernel
theorem dX12_squares_57 : decode cX12_squares 57 = .ok (.aload_n 0, 1) := by decide +kernel
theorem dX12_squares_58 : decode cX12_squares 58 = .ok (.getfield 45, 3) := by decide +kernel
theorem dX12_squares_61 : decode cX12_squares 61 = .ok (.bipush 13, 2) := by decide +kernel
theorem dX12_squares_63 : decode cX12_squares 63 = .ok (.iload_n 1, 1) := by decide +kernel
theorem dX12_squares_64 : decode cX12_squares 64 = .ok (.imul, 1) := by decide +kernel
theorem dX12_squares_65 : decode cX12_squares 65 = .ok (.iload 7, 2) := by decide +kernel
theorem dX12_squares_67 : decode cX12_squares 67 = .ok (.iadd, 1) := by decide +kernel
theorem dX12_squares_68 : decode cX12_squares 68 = .ok (.laload, 1) := by decide +kernel
theorem dX12_squares_69 : decode cX12_squares 69 = .ok (.invokevirtual 186, 3) := by decide +kernel
theorem dX12_squares_72 : decode cX12_squares 72 = .ok (.lstore 8, 2) := by decide +kernel
theorem dX12_squares_74 : decode cX12_squares 74 = .ok (.iload 7, 2) := by decide +kernel
theorem dX12_squares_76 : decode cX12_squares 76 = .ok (.iload_n 2, 1) := by decide +kernel
theorem dX12_squares_77 : decode cX12_squares 77 = .ok (.iadd, 1) := by decide +kernel
theorem dX12_squares_78 : decode cX12_squares 78 = .ok (.iconst 2, 1) := by decide +kernel
theorem dX12_squares_79 : decode cX12_squares 79 = .ok (.irem, 1) := by decide +kernel
theorem dX12_squares_80 : decode cX12_squares 80 = .ok (.ifCond .ne 14, 3) := by decide +kernel
theorem dX12_squares_83 : decode cX12_squares 83 = .ok (.aload_n 0, 1) := by decide +kernel
theorem dX12_squares_84 : decode cX12_squares 84 = .ok (.lload 4, 2) := by decide +kernel
theorem dX12_squares_86 : decode cX12_squares 86 = .ok (.lload 8, 2) := by decide +kernel
theorem dX12_squares_88 : decode cX12_squares 88 = .ok (.invokevirtual 190, 3) := by decide +kernel
theorem dX12_squares_91 : decode cX12_squares 91 = .ok (.goto 11, 3) := by decide +kernel
theorem dX12_squares_94 : decode cX12_squares 94 = .ok (.aload_n 0, 1) := by decide +kernel
theorem dX12_squares_95 : decode cX12_squares 95 = .ok (.lload 4, 2) := by decide +kernel
theorem dX12_squares_97 : decode cX12_squares 97 = .ok (.lload 8, 2) := by decide +kernel
theorem dX12_squares_99 : decode cX12_squares 99 = .ok (.invokevirtual 193, 3) := by decide +kernel
theorem dX12_squares_102 : decode cX12_squares 102 = .ok (.lstore 4, 2) := by decide +kernel
theorem dX12_squares_104 : decode cX12_squares 104 = .ok (.iinc 6 1, 3) := by decide +kernel
theorem dX12_squares_107 : decode cX12_squares 107 = .ok (.goto (-89), 3) := by decide +kernel
theorem dX12_squares_110 : decode cX12_squares 110 = .ok (.aload_n 0, 1) := by decide +kernel
theorem dX12_squares_111 : decode cX12_squares 111 = .ok (.getfield 45, 3) := by decide +kernel
theorem dX12_squares_114 : decode cX12_squares 114 = .ok (.bipush 13, 2) := by decide +kernel
theorem dX12_squares_116 : decode cX12_squares 116 = .ok (.iload_n 1, 1) := by decide +kernel
theorem dX12_squares_117 : decode cX12_squares 117 = .ok (.iconst 1, 1) := by decide +kernel
theorem dX12_squares_118 : decode cX12_squares 118 = .ok (.iadd, 1) := by decide +kernel
theorem dX12_squares_119 : decode cX12_squares 119 = .ok (.imul, 1) := by decide +kernel
theorem dX12_squares_120 : decode cX12_squares 120 = .ok (.iload_n 3, 1) := by decide +kernel
theorem dX12_squares_121 : decode cX12_squares 121 = .ok (.iadd, 1) := by decide +kernel
theorem dX12_squares_122 : decode cX12_squares 122 = .ok (.lload 4, 2) := by decide +kernel
theorem dX12_squares_124 : decode cX12_squares 124 = .ok (.lastore, 1) := by decide +kernel
theorem dX12_squares_125 : decode cX12_squares 125 = .ok (.iinc 3 1, 3) := by decide +kernel
theorem dX12_squares_128 : decode cX12_squares 128 = .ok (.goto (-121), 3) := by decide +kernel
theorem dX12_squares_131 : decode cX12_squares 131 = .ok (.return_, 1) := by decide +kernel
theorem dX12_layLevels_0 : decode cX12_layLevels 0 = .ok (.aload_n 0, 1) := by decide +kernel
theorem dX12_layLevels_1 : decode cX12_layLevels 1 = .ok (.aload_n 0, 1) := by decide +kernel
theorem dX12_layLevels_2 : decode cX12_layLevels 2 = .ok (.getfield 113, 3) := by decide +kernel
theorem dX12_layLevels_5 : decode cX12_layLevels 5 = .ok (.putfield 183, 3) := by decide +kernel
theorem dX12_layLevels_8 : decode cX12_layLevels 8 = .ok (.iconst 0, 1) := by decide +kernel
theorem dX12_layLevels_9 : decode cX12_layLevels 9 = .ok (.istore_n 1, 1) := by decide +kernel
theorem dX12_layLevels_10 : decode cX12_layLevels 10 = .ok (.iload_n 1, 1) := by decide +kernel
theorem dX12_layLevels_11 : decode cX12_layLevels 11 = .ok (.bipush 12, 2) := by decide +kernel
theorem dX12_layLevels_13 : decode cX12_layLevels 13 = .ok (.if_icmp .gt 33, 3) := by decide +kernel
theorem dX12_layLevels_16 : decode cX12_layLevels 16 = .ok (.aload_n 0, 1) := by decide +kernel
theorem dX12_layLevels_17 : decode cX12_layLevels 17 = .ok (.getfield 45, 3) := by decide +kernel
theorem dX12_layLevels_20 : decode cX12_layLevels 20 = .ok (.iload_n 1, 1) := by decide +kernel
theorem dX12_layLevels_21 : decode cX12_layLevels 21 = .ok (.iload_n 1, 1) := by decide +kernel
theorem dX12_layLevels_22 : decode cX12_layLevels 22 = .ok (.aload_n 0, 1) := by decide +kernel
theorem dX12_layLevels_23 : decode cX12_layLevels 23 = .ok (.getfield 113, 3) := by decide +kernel
theorem dX12_layLevels_26 : decode cX12_layLevels 26 = .ok (.if_icmp .gt 12, 3) := by decide +kernel
theorem dX12_layLevels_29 : decode cX12_layLevels 29 = .ok (.aload_n 0, 1) := by decide +kernel
theorem dX12_layLevels_30 : decode cX12_layLevels 30 = .ok (.getfield 29, 3) := by decide +kernel
theorem dX12_layLevels_33 : decode cX12_layLevels 33 = .ok (.iload_n 1, 1) := by decide +kernel
theorem dX12_layLevels_34 : decode cX12_layLevels 34 = .ok (.laload, 1) := by decide +kernel
theorem dX12_layLevels_35 : decode cX12_layLevels 35 = .ok (.goto 4, 3) := by decide +kernel
theorem dX12_layLevels_38 : decode cX12_layLevels 38 = .ok (.lconst 0, 1) := by decide +kernel
theorem dX12_layLevels_39 : decode cX12_layLevels 39 = .ok (.lastore, 1) := by decide +kernel
theorem dX12_layLevels_40 : decode cX12_layLevels 40 = .ok (.iinc 1 1, 3) := by decide +kernel
theorem dX12_layLevels_43 : decode cX12_layLevels 43 = .ok (.goto (-33), 3) := by decide +kernel
theorem dX12_layLevels_46 : decode cX12_layLevels 46 = .ok (.aload_n 0, 1) := by decide +kernel
theorem dX12_layLevels_47 : decode cX12_layLevels 47 = .ok (.iconst 0, 1) := by decide +kernel
theorem dX12_layLevels_48 : decode cX12_layLevels 48 = .ok (.putfield 196, 3) := by decide +kernel
theorem dX12_layLevels_51 : decode cX12_layLevels 51 = .ok (.aload_n 0, 1) := by decide +kernel
theorem dX12_layLevels_52 : decode cX12_layLevels 52 = .ok (.iconst 0, 1) := by decide +kernel
theorem dX12_layLevels_53 : decode cX12_layLevels 53 = .ok (.putfield 179, 3) := by decide +kernel
theorem dX12_layLevels_56 : decode cX12_layLevels 56 = .ok (.iconst 0, 1) := by decide +kernel
theorem dX12_layLevels_57 : decode cX12_layLevels 57 = .ok (.istore_n 1, 1) := by decide +kernel
theorem dX12_layLevels_58 : decode cX12_layLevels 58 = .ok (.iload_n 1, 1) := by decide +kernel
theorem dX12_layLevels_59 : decode cX12_layLevels 59 = .ok (.bipush 6, 2) := by decide +kernel
theorem dX12_layLevels_61 : decode cX12_layLevels 61 = .ok (.if_icmp .ge 70, 3) := by decide +kernel
theorem dX12_layLevels_64 : decode cX12_layLevels 64 = .ok (.aload_n 0, 1) := by decide +kernel
theorem dX12_layLevels_65 : decode cX12_layLevels 65 = .ok (.getfield 179, 3) := by decide +kernel
theorem dX12_layLevels_68 : decode cX12_layLevels 68 = .ok (.ifCond .ne 63, 3) := by decide +kernel
theorem dX12_layLevels_71 : decode cX12_layLevels 71 = .ok (.iconst 0, 1) := by decide +kernel
theorem dX12_layLevels_72 : decode cX12_layLevels 72 = .ok (.istore_n 2, 1) := by decide +kernel
theorem dX12_layLevels_73 : decode cX12_layLevels 73 = .ok (.iload_n 2, 1) := by decide +kernel
theorem dX12_layLevels_74 : decode cX12_layLevels 74 = .ok (.bipush 12, 2) := by decide +kernel
theorem dX12_layLevels_76 : decode cX12_layLevels 76 = .ok (.if_icmp .gt 23, 3) := by decide +kernel
theorem dX12_layLevels_79 : decode cX12_layLevels 79 = .ok (.aload_n 0, 1) := by decide +kernel
theorem dX12_layLevels_80 : decode cX12_layLevels 80 = .ok (.getfield 45, 3) := by decide +kernel
theorem dX12_layLevels_83 : decode cX12_layLevels 83 = .ok (.bipush 13, 2) := by decide +kernel
theorem dX12_layLevels_85 : decode cX12_layLevels 85 = .ok (.iload_n 1, 1) := by decide +kernel
theorem dX12_layLevels_86 : decode cX12_layLevels 86 = .ok (.iconst 1, 1) := by decide +kernel
theorem dX12_layLevels_87 : decode cX12_layLevels 87 = .ok (.iadd, 1) := by decide +kernel
theorem dX12_layLevels_88 : decode cX12_layLevels 88 = .ok (.imul, 1) := by decide +kernel
theorem dX12_layLevels_89 : decode cX12_layLevels 89 = .ok (.iload_n 2, 1) := by decide +kernel
theorem dX12_layLevels_90 : decode cX12_layLevels 90 = .ok (.iadd, 1) := by decide +kernel
theorem dX12_layLevels_91 : decode cX12_layLevels 91 = .ok (.lconst 0, 1) := by decide +kernel
theorem dX12_layLevels_92 : decode cX12_layLevels 92 = .ok (.lastore, 1) := by decide +kernel
theorem dX12_layLevels_93 : decode cX12_layLevels 93 = .ok (.iinc 2 1, 3) := by decide +kernel
theorem dX12_layLevels_96 : decode cX12_layLevels 96 = .ok (.goto (-23), 3) := by decide +kernel
theorem dX12_layLevels_99 : decode cX12_layLevels 99 = .ok (.aload_n 0, 1) := by decide +kernel
theorem dX12_layLevels_100 : decode cX12_layLevels 100 = .ok (.iload_n 1, 1) := by decide +kernel
theorem dX12_layLevels_101 : decode cX12_layLevels 101 = .ok (.invokevirtual 199, 3) := by decide +kernel
theorem dX12_layLevels_104 : decode cX12_layLevels 104 = .ok (.aload_n 0, 1) := by decide +kernel
theorem dX12_layLevels_105 : decode cX12_layLevels 105 = .ok (.aload_n 0, 1) := by decide +kernel
theorem dX12_layLevels_106 : decode cX12_layLevels 106 = .ok (.getfield 179, 3) := by decide +kernel
theorem dX12_layLevels_109 : decode cX12_layLevels 109 = .ok (.ifCond .eq 10, 3) := by decide +kernel
theorem dX12_layLevels_112 : decode cX12_layLevels 112 = .ok (.aload_n 0, 1) := by decide +kernel
theorem dX12_layLevels_113 : decode cX12_layLevels 113 = .ok (.getfield 196, 3) := by decide +kernel
theorem dX12_layLevels_116 : decode cX12_layLevels 116 = .ok (.goto 6, 3) := by decide +kernel
theorem dX12_layLevels_119 : decode cX12_layLevels 119 = .ok (.iload_n 1, 1) := by decide +kernel
theorem dX12_layLevels_120 : decode cX12_layLevels 120 = .ok (.iconst 1, 1) := by decide +kernel
theorem dX12_layLevels_121 : decode cX12_layLevels 121 = .ok (.iadd, 1) := by decide +kernel
theorem dX12_layLevels_122 : decode cX12_layLevels 122 = .ok (.putfield 196, 3) := by decide +kernel
theorem dX12_layLevels_125 : decode cX12_layLevels 125 = .ok (.iinc 1 1, 3) := by decide +kernel
theorem dX12_layLevels_128 : decode cX12_layLevels 128 = .ok (.goto (-70), 3) := by decide +kernel
theorem dX12_layLevels_131 : decode cX12_layLevels 131 = .ok (.return_, 1) := by decide +kernel
theorem dX12_tellNumber_0 : decode cX12_tellNumber 0 = .ok (.iconst 0, 1) := by decide +kernel
theorem dX12_tellNumber_1 : decode cX12_tellNumber 1 = .ok (.istore 4, 2) := by decide +kernel
theorem dX12_tellNumber_3 : decode cX12_tellNumber 3 = .ok (.lload_n 2, 1) := by decide +kernel
theorem dX12_tellNumber_4 : decode cX12_tellNumber 4 = .ok (.lstore 5, 2) := by decide +kernel
theorem dX12_tellNumber_6 : decode cX12_tellNumber 6 = .ok (.lload 5, 2) := by decide +kernel
theorem dX12_tellNumber_8 : decode cX12_tellNumber 8 = .ok (.lconst 0, 1) := by decide +kernel
theorem dX12_tellNumber_9 : decode cX12_tellNumber 9 = .ok (.lcmp, 1) := by decide +kernel
theorem dX12_tellNumber_10 : decode cX12_tellNumber 10 = .ok (.ifCond .le 31, 3) := by decide +kernel
theorem dX12_tellNumber_13 : decode cX12_tellNumber 13 = .ok (.aload_n 0, 1) := by decide +kernel
theorem dX12_tellNumber_14 : decode cX12_tellNumber 14 = .ok (.getfield 48, 3) := by decide +kernel
theorem dX12_tellNumber_17 : decode cX12_tellNumber 17 = .ok (.iload_n 1, 1) := by decide +kernel
theorem dX12_tellNumber_18 : decode cX12_tellNumber 18 = .ok (.iload 4, 2) := by decide +kernel
theorem dX12_tellNumber_20 : decode cX12_tellNumber 20 = .ok (.iadd, 1) := by decide +kernel
theorem dX12_tellNumber_21 : decode cX12_tellNumber 21 = .ok (.lload 5, 2) := by decide +kernel
theorem dX12_tellNumber_23 : decode cX12_tellNumber 23 = .ok (.ldc2_w 202, 3) := by decide +kernel
theorem dX12_tellNumber_26 : decode cX12_tellNumber 26 = .ok (.land, 1) := by decide +kernel
theorem dX12_tellNumber_27 : decode cX12_tellNumber 27 = .ok (.lastore, 1) := by decide +kernel
theorem dX12_tellNumber_28 : decode cX12_tellNumber 28 = .ok (.iinc 4 1, 3) := by decide +kernel
theorem dX12_tellNumber_31 : decode cX12_tellNumber 31 = .ok (.lload 5, 2) := by decide +kernel
theorem dX12_tellNumber_33 : decode cX12_tellNumber 33 = .ok (.bipush 28, 2) := by decide +kernel
theorem dX12_tellNumber_35 : decode cX12_tellNumber 35 = .ok (.lushr, 1) := by decide +kernel
theorem dX12_tellNumber_36 : decode cX12_tellNumber 36 = .ok (.lstore 5, 2) := by decide +kernel
theorem dX12_tellNumber_38 : decode cX12_tellNumber 38 = .ok (.goto (-32), 3) := by decide +kernel
theorem dX12_tellNumber_41 : decode cX12_tellNumber 41 = .ok (.aload_n 0, 1) := by decide +kernel
theorem dX12_tellNumber_42 : decode cX12_tellNumber 42 = .ok (.getfield 51, 3) := by decide +kernel
theorem dX12_tellNumber_45 : decode cX12_tellNumber 45 = .ok (.iload_n 1, 1) := by decide +kernel
theorem dX12_tellNumber_46 : decode cX12_tellNumber 46 = .ok (.bipush 90, 2) := by decide +kernel
theorem dX12_tellNumber_48 : decode cX12_tellNumber 48 = .ok (.idiv, 1) := by decide +kernel
theorem dX12_tellNumber_49 : decode cX12_tellNumber 49 = .ok (.iload 4, 2) := by decide +kernel
theorem dX12_tellNumber_51 : decode cX12_tellNumber 51 = .ok (.iastore, 1) := by decide +kernel
theorem dX12_tellNumber_52 : decode cX12_tellNumber 52 = .ok (.return_, 1) := by decide +kernel
theorem dX12_copyNumber_0 : decode cX12_copyNumber 0 = .ok (.aload_n 0, 1) := by decide +kernel
theorem dX12_copyNumber_1 : decode cX12_copyNumber 1 = .ok (.getfield 51, 3) := by decide +kernel
theorem dX12_copyNumber_4 : decode cX12_copyNumber 4 = .ok (.iload_n 2, 1) := by decide +kernel
theorem dX12_copyNumber_5 : decode cX12_copyNumber 5 = .ok (.bipush 90, 2) := by decide +kernel
theorem dX12_copyNumber_7 : decode cX12_copyNumber 7 = .ok (.idiv, 1) := by decide +kernel
theorem dX12_copyNumber_8 : decode cX12_copyNumber 8 = .ok (.aload_n 0, 1) := by decide +kernel
theorem dX12_copyNumber_9 : decode cX12_copyNumber 9 = .ok (.getfield 51, 3) := by decide +kernel
theorem dX12_copyNumber_12 : decode cX12_copyNumber 12 = .ok (.iload_n 1, 1) := by decide +kernel
theorem dX12_copyNumber_13 : decode cX12_copyNumber 13 = .ok (.bipush 90, 2) := by decide +kernel
theorem dX12_copyNumber_15 : decode cX12_copyNumber 15 = .ok (.idiv, 1) := by decide +kernel
theorem dX12_copyNumber_16 : decode cX12_copyNumber 16 = .ok (.iaload, 1) := by decide +kernel
theorem dX12_copyNumber_17 : decode cX12_copyNumber 17 = .ok (.iastore, 1) := by decide +kernel
theorem dX12_copyNumber_18 : decode cX12_copyNumber 18 = .ok (.iconst 0, 1) := by decide +kernel
theorem dX12_copyNumber_19 : decode cX12_copyNumber 19 = .ok (.istore_n 3, 1) := by decide +kernel
theorem dX12_copyNumber_20 : decode cX12_copyNumber 20 = .ok (.iload_n 3, 1) := by decide +kernel
theorem dX12_copyNumber_21 : decode cX12_copyNumber 21 = .ok (.aload_n 0, 1) := by decide +kernel
theorem dX12_copyNumber_22 : decode cX12_copyNumber 22 = .ok (.getfield 51, 3) := by decide +kernel
theorem dX12_copyNumber_25 : decode cX12_copyNumber 25 = .ok (.iload_n 1, 1) := by decide +kernel
theorem dX12_copyNumber_26 : decode cX12_copyNumber 26 = .ok (.bipush 90, 2) := by decide +kernel
theorem dX12_copyNumber_28 : decode cX12_copyNumber 28 = .ok (.idiv, 1) := by decide +kernel
theorem dX12_copyNumber_29 : decode cX12_copyNumber 29 = .ok (.iaload, 1) := by decide +kernel
theorem dX12_copyNumber_30 : decode cX12_copyNumber 30 = .ok (.if_icmp .ge 25, 3) := by decide +kernel
theorem dX12_copyNumber_33 : decode cX12_copyNumber 33 = .ok (.aload_n 0, 1) := by decide +kernel
theorem dX12_copyNumber_34 : decode cX12_copyNumber 34 = .ok (.getfield 48, 3) := by decide +kernel
theorem dX12_copyNumber_37 : decode cX12_copyNumber 37 = .ok (.iload_n 2, 1) := by decide +kernel
theorem dX12_copyNumber_38 : decode cX12_copyNumber 38 = .ok (.iload_n 3, 1) := by decide +kernel
theorem dX12_copyNumber_39 : decode cX12_copyNumber 39 = .ok (.iadd, 1) := by decide +kernel
theorem dX12_copyNumber_40 : decode cX12_copyNumber 40 = .ok (.aload_n 0, 1) := by decide +kernel
theorem dX12_copyNumber_41 : decode cX12_copyNumber 41 = .ok (.getfield 48, 3) := by decide +kernel
theorem dX12_copyNumber_44 : decode cX12_copyNumber 44 = .ok (.iload_n 1, 1) := by decide +kernel
theorem dX12_copyNumber_45 : decode cX12_copyNumber 45 = .ok (.iload_n 3, 1) := by decide +kernel
theorem dX12_copyNumber_46 : decode cX12_copyNumber 46 = .ok (.iadd, 1) := by decide +kernel
theorem dX12_copyNumber_47 : decode cX12_copyNumber 47 = .ok (.laload, 1) := by decide +kernel
theorem dX12_copyNumber_48 : decode cX12_copyNumber 48 = .ok (.lastore, 1) := by decide +kernel
theorem dX12_copyNumber_49 : decode cX12_copyNumber 49 = .ok (.iinc 3 1, 3) := by decide +kernel
theorem dX12_copyNumber_52 : decode cX12_copyNumber 52 = .ok (.goto (-32), 3) := by decide +kernel
theorem dX12_copyNumber_55 : decode cX12_copyNumber 55 = .ok (.return_, 1) := by decide +kernel
theorem dX12_product_0 : decode cX12_product 0 = .ok (.aload_n 0, 1) := by decide +kernel
theorem dX12_product_1 : decode cX12_product 1 = .ok (.getfield 51, 3) := by decide +kernel
theorem dX12_product_4 : decode cX12_product 4 = .ok (.iload_n 1, 1) := by decide +kernel
theorem dX12_product_5 : decode cX12_product 5 = .ok (.bipush 90, 2) := by decide +kernel
theorem dX12_product_7 : decode cX12_product 7 = .ok (.idiv, 1) := by decide +kernel
theorem dX12_product_8 : decode cX12_product 8 = .ok (.iaload, 1) := by decide +kernel
theorem dX12_product_9 : decode cX12_product 9 = .ok (.istore 4, 2) := by decide +kernel
theorem dX12_product_11 : decode cX12_product 11 = .ok (.aload_n 0, 1) := by decide +kernel
theorem dX12_product_12 : decode cX12_product 12 = .ok (.getfield 51, 3) := by decide +kernel
theorem dX12_product_15 : decode cX12_product 15 = .ok (.iload_n 2, 1) := by decide +kernel
theorem dX12_product_16 : decode cX12_product 16 = .ok (.bipush 90, 2) := by decide +kernel
theorem dX12_product_18 : decode cX12_product 18 = .ok (.idiv, 1) := by decide +kernel
theorem dX12_product_19 : decode cX12_product 19 = .ok (.iaload, 1) := by decide +kernel
theorem dX12_product_20 : decode cX12_product 20 = .ok (.istore 5, 2) := by decide +kernel
theorem dX12_product_22 : decode cX12_product 22 = .ok (.iconst 0, 1) := by decide +kernel
theorem dX12_product_23 : decode cX12_product 23 = .ok (.istore 6, 2) := by decide +kernel
theorem dX12_product_25 : decode cX12_product 25 = .ok (.iload 6, 2) := by decide +kernel
theorem dX12_product_27 : decode cX12_product 27 = .ok (.iload 4, 2) := by decide +kernel
theorem dX12_product_29 : decode cX12_product 29 = .ok (.iload 5, 2) := by decide +kernel
theorem dX12_product_31 : decode cX12_product 31 = .ok (.iadd, 1) := by decide +kernel
theorem dX12_product_32 : decode cX12_product 32 = .ok (.if_icmp .ge 19, 3) := by decide +kernel
theorem dX12_product_35 : decode cX12_product 35 = .ok (.aload_n 0, 1) := by decide +kernel
theorem dX12_product_36 : decode cX12_product 36 = .ok (.getfield 48, 3) := by decide +kernel
theorem dX12_product_39 : decode cX12_product 39 = .ok (.iload_n 3, 1) := by decide +kernel
theorem dX12_product_40 : decode cX12_product 40 = .ok (.iload 6, 2) := by decide +kernel
theorem dX12_product_42 : decode cX12_product 42 = .ok (.iadd, 1) := by decide +kernel
theorem dX12_product_43 : decode cX12_product 43 = .ok (.lconst 0, 1) := by decide +kernel
theorem dX12_product_44 : decode cX12_product 44 = .ok (.lastore, 1) := by decide +kernel
theorem dX12_product_45 : decode cX12_product 45 = .ok (.iinc 6 1, 3) := by decide +kernel
theorem dX12_product_48 : decode cX12_product 48 = .ok (.goto (-23), 3) := by decide +kernel
theorem dX12_product_51 : decode cX12_product 51 = .ok (.iconst 0, 1) := by decide +kernel
theorem dX12_product_52 : decode cX12_product 52 = .ok (.istore 6, 2) := by decide +kernel
theorem dX12_product_54 : decode cX12_product 54 = .ok (.iload 6, 2) := by decide +kernel
theorem dX12_product_56 : decode cX12_product 56 = .ok (.iload 4, 2) := by decide +kernel
theorem dX12_product_58 : decode cX12_product 58 = .ok (.if_icmp .ge 107, 3) := by decide +kernel
theorem dX12_product_61 : decode cX12_product 61 = .ok (.lconst 0, 1) := by decide +kernel
theorem dX12_product_62 : decode cX12_product 62 = .ok (.lstore 7, 2) := by decide +kernel
theorem dX12_product_64 : decode cX12_product 64 = .ok (.iconst 0, 1) := by decide +kernel
theorem dX12_product_65 : decode cX12_product 65 = .ok (.istore 9, 2) := by decide +kernel
theorem dX12_product_67 : decode cX12_product 67 = .ok (.iload 9, 2) := by decide +kernel
theorem dX12_product_69 : decode cX12_product 69 = .ok (.iload 5, 2) := by decide +kernel
theorem dX12_product_71 : decode cX12_product 71 = .ok (.if_icmp .ge 71, 3) := by decide +kernel
theorem dX12_product_74 : decode cX12_product 74 = .ok (.aload_n 0, 1) := by decide +kernel
theorem dX12_product_75 : decode cX12_product 75 = .ok (.getfield 48, 3) := by decide +kernel
theorem dX12_product_78 : decode cX12_product 78 = .ok (.iload_n 3, 1) := by decide +kernel
theorem dX12_product_79 : decode cX12_product 79 = .ok (.iload 6, 2) := by decide +kernel
theorem dX12_product_81 : decode cX12_product 81 = .ok (.iadd, 1) := by decide +kernel
theorem dX12_product_82 : decode cX12_product 82 = .ok (.iload 9, 2) := by decide +kernel
theorem dX12_product_84 : decode cX12_product 84 = .ok (.iadd, 1) := by decide +kernel
theorem dX12_product_85 : decode cX12_product 85 = .ok (.laload, 1) := by decide +kernel
theorem dX12_product_86 : decode cX12_product 86 = .ok (.aload_n 0, 1) := by decide +kernel
theorem dX12_product_87 : decode cX12_product 87 = .ok (.getfield 48, 3) := by decide +kernel
theorem dX12_product_90 : decode cX12_product 90 = .ok (.iload_n 1, 1) := by decide +kernel
theorem dX12_product_91 : decode cX12_product 91 = .ok (.iload 6, 2) := by decide +kernel
theorem dX12_product_93 : decode cX12_product 93 = .ok (.iadd, 1) := by decide +kernel
theorem dX12_product_94 : decode cX12_product 94 = .ok (.laload, 1) := by decide +kernel
theorem dX12_product_95 : decode cX12_product 95 = .ok (.aload_n 0, 1) := by decide +kernel
theorem dX12_product_96 : decode cX12_product 96 = .ok (.getfield 48, 3) := by decide +kernel
theorem dX12_product_99 : decode cX12_product 99 = .ok (.iload_n 2, 1) := by decide +kernel
theorem dX12_product_100 : decode cX12_product 100 = .ok (.iload 9, 2) := by decide +kernel
theorem dX12_product_102 : decode cX12_product 102 = .ok (.iadd, 1) := by decide +kernel
theorem dX12_product_103 : decode cX12_product 103 = .ok (.laload, 1) := by decide +kernel
theorem dX12_product_104 : decode cX12_product 104 = .ok (.lmul, 1) := by decide +kernel
theorem dX12_product_105 : decode cX12_product 105 = .ok (.ladd, 1) := by decide +kernel
theorem dX12_product_106 : decode cX12_product 106 = .ok (.lload 7, 2) := by decide +kernel
theorem dX12_product_108 : decode cX12_product 108 = .ok (.ladd, 1) := by decide +kernel
theorem dX12_product_109 : decode cX12_product 109 = .ok (.lstore 10, 2) := by decide +kernel
theorem dX12_product_111 : decode cX12_product 111 = .ok (.aload_n 0, 1) := by decide +kernel
theorem dX12_product_112 : decode cX12_product 112 = .ok (.getfield 48, 3) := by decide +kernel
theorem dX12_product_115 : decode cX12_product 115 = .ok (.iload_n 3, 1) := by decide +kernel
theorem dX12_product_116 : decode cX12_product 116 = .ok (.iload 6, 2) := by decide +kernel
theorem dX12_product_118 : decode cX12_product 118 = .ok (.iadd, 1) := by decide +kernel
theorem dX12_product_119 : decode cX12_product 119 = .ok (.iload 9, 2) := by decide +kernel
theorem dX12_product_121 : decode cX12_product 121 = .ok (.iadd, 1) := by decide +kernel
theorem dX12_product_122 : decode cX12_product 122 = .ok (.lload 10, 2) := by decide +kernel
theorem dX12_product_124 : decode cX12_product 124 = .ok (.ldc2_w 202, 3) := by decide +kernel
theorem dX12_product_127 : decode cX12_product 127 = .ok (.land, 1) := by decide +kernel
theorem dX12_product_128 : decode cX12_product 128 = .ok (.lastore, 1) := by decide +kernel
theorem dX12_product_129 : decode cX12_product 129 = .ok (.lload 10, 2) := by decide +kernel
theorem dX12_product_131 : decode cX12_product 131 = .ok (.bipush 28, 2) := by decide +kernel
theorem dX12_product_133 : decode cX12_product 133 = .ok (.lushr, 1) := by decide +kernel
theorem dX12_product_134 : decode cX12_product 134 = .ok (.lstore 7, 2) := by decide +kernel
theorem dX12_product_136 : decode cX12_product 136 = .ok (.iinc 9 1, 3) := by decide +kernel
theorem dX12_product_139 : decode cX12_product 139 = .ok (.goto (-72), 3) := by decide +kernel
theorem dX12_product_142 : decode cX12_product 142 = .ok (.aload_n 0, 1) := by decide +kernel
theorem dX12_product_143 : decode cX12_product 143 = .ok (.getfield 48, 3) := by decide +kernel
theorem dX12_product_146 : decode cX12_product 146 = .ok (.iload_n 3, 1) := by decide +kernel
theorem dX12_product_147 : decode cX12_product 147 = .ok (.iload 6, 2) := by decide +kernel
theorem dX12_product_149 : decode cX12_product 149 = .ok (.iadd, 1) := by decide +kernel
theorem dX12_product_150 : decode cX12_product 150 = .ok (.iload 5, 2) := by decide +kernel
theorem dX12_product_152 : decode cX12_product 152 = .ok (.iadd, 1) := by decide +kernel
theorem dX12_product_153 : decode cX12_product 153 = .ok (.dup2, 1) := by decide +kernel
theorem dX12_product_154 : decode cX12_product 154 = .ok (.laload, 1) := by decide +kernel
theorem dX12_product_155 : decode cX12_product 155 = .ok (.lload 7, 2) := by decide +kernel
theorem dX12_product_157 : decode cX12_product 157 = .ok (.ladd, 1) := by decide +kernel
theorem dX12_product_158 : decode cX12_product 158 = .ok (.lastore, 1) := by decide +kernel
theorem dX12_product_159 : decode cX12_product 159 = .ok (.iinc 6 1, 3) := by decide +kernel
theorem dX12_product_162 : decode cX12_product 162 = .ok (.goto (-108), 3) := by decide +kernel
theorem dX12_product_165 : decode cX12_product 165 = .ok (.iload 4, 2) := by decide +kernel
theorem dX12_product_167 : decode cX12_product 167 = .ok (.iload 5, 2) := by decide +kernel
theorem dX12_product_169 : decode cX12_product 169 = .ok (.iadd, 1) := by decide +kernel
theorem dX12_product_170 : decode cX12_product 170 = .ok (.istore 6, 2) := by decide +kernel
theorem dX12_product_172 : decode cX12_product 172 = .ok (.iload 6, 2) := by decide +kernel
theorem dX12_product_174 : decode cX12_product 174 = .ok (.ifCond .le 25, 3) := by decide +kernel
theorem dX12_product_177 : decode cX12_product 177 = .ok (.aload_n 0, 1) := by decide +kernel
theorem dX12_product_178 : decode cX12_product 178 = .ok (.getfield 48, 3) := by decide +kernel
theorem dX12_product_181 : decode cX12_product 181 = .ok (.iload_n 3, 1) := by decide +kernel
theorem dX12_product_182 : decode cX12_product 182 = .ok (.iload 6, 2) := by decide +kernel
theorem dX12_product_184 : decode cX12_product 184 = .ok (.iadd, 1) := by decide +kernel
theorem dX12_product_185 : decode cX12_product 185 = .ok (.iconst 1, 1) := by decide +kernel
theorem dX12_product_186 : decode cX12_product 186 = .ok (.isub, 1) := by decide +kernel
theorem dX12_product_187 : decode cX12_product 187 = .ok (.laload, 1) := by decide +kernel
theorem dX12_product_188 : decode cX12_product 188 = .ok (.lconst 0, 1) := by decide +kernel
theorem dX12_product_189 : decode cX12_product 189 = .ok (.lcmp, 1) := by decide +kernel
theorem dX12_product_190 : decode cX12_product 190 = .ok (.ifCond .ne 9, 3) := by decide +kernel
theorem dX12_product_193 : decode cX12_product 193 = .ok (.iinc 6 (-1), 3) := by decide +kernel
theorem dX12_product_196 : decode cX12_product 196 = .ok (.goto (-24), 3) := by decide +kernel
theorem dX12_product_199 : decode cX12_product 199 = .ok (.aload_n 0, 1) := by decide +kernel
theorem dX12_product_200 : decode cX12_product 200 = .ok (.getfield 51, 3) := by decide +kernel
theorem dX12_product_203 : decode cX12_product 203 = .ok (.iload_n 3, 1) := by decide +kernel
theorem dX12_product_204 : decode cX12_product 204 = .ok (.bipush 90, 2) := by decide +kernel
theorem dX12_product_206 : decode cX12_product 206 = .ok (.idiv, 1) := by decide +kernel
theorem dX12_product_207 : decode cX12_product 207 = .ok (.iload 6, 2) := by decide +kernel
theorem dX12_product_209 : decode cX12_product 209 = .ok (.iastore, 1) := by decide +kernel
theorem dX12_product_210 : decode cX12_product 210 = .ok (.return_, 1) := by decide +kernel
theorem dX12_compareNumbers_0 : decode cX12_compareNumbers 0 = .ok (.aload_n 0, 1) := by decide +kernel
theorem dX12_compareNumbers_1 : decode cX12_compareNumbers 1 = .ok (.getfield 51, 3) := by decide +kernel
theorem dX12_compareNumbers_4 : decode cX12_compareNumbers 4 = .ok (.iload_n 1, 1) := by decide +kernel
theorem dX12_compareNumbers_5 : decode cX12_compareNumbers 5 = .ok (.bipush 90, 2) := by decide +kernel
theorem dX12_compareNumbers_7 : decode cX12_compareNumbers 7 = .ok (.idiv, 1) := by decide +kernel
theorem dX12_compareNumbers_8 : decode cX12_compareNumbers 8 = .ok (.iaload, 1) := by decide +kernel
theorem dX12_compareNumbers_9 : decode cX12_compareNumbers 9 = .ok (.istore_n 3, 1) := by decide +kernel
theorem dX12_compareNumbers_10 : decode cX12_compareNumbers 10 = .ok (.aload_n 0, 1) := by decide +kernel
theorem dX12_compareNumbers_11 : decode cX12_compareNumbers 11 = .ok (.getfield 51, 3) := by decide +kernel
theorem dX12_compareNumbers_14 : decode cX12_compareNumbers 14 = .ok (.iload_n 2, 1) := by decide +kernel
theorem dX12_compareNumbers_15 : decode cX12_compareNumbers 15 = .ok (.bipush 90, 2) := by decide +kernel
theorem dX12_compareNumbers_17 : decode cX12_compareNumbers 17 = .ok (.idiv, 1) := by decide +kernel
theorem dX12_compareNumbers_18 : decode cX12_compareNumbers 18 = .ok (.iaload, 1) := by decide +kernel
theorem dX12_compareNumbers_19 : decode cX12_compareNumbers 19 = .ok (.istore 4, 2) := by decide +kernel
theorem dX12_compareNumbers_21 : decode cX12_compareNumbers 21 = .ok (.iload_n 3, 1) := by decide +kernel
theorem dX12_compareNumbers_22 : decode cX12_compareNumbers 22 = .ok (.iload 4, 2) := by decide +kernel
theorem dX12_compareNumbers_24 : decode cX12_compareNumbers 24 = .ok (.if_icmp .eq 15, 3) := by decide +kernel
theorem dX12_compareNumbers_27 : decode cX12_compareNumbers 27 = .ok (.iload_n 3, 1) := by decide +kernel
theorem dX12_compareNumbers_28 : decode cX12_compareNumbers 28 = .ok (.iload 4, 2) := by decide +kernel
theorem dX12_compareNumbers_30 : decode cX12_compareNumbers 30 = .ok (.if_icmp .ge 7, 3) := by decide +kernel
theorem dX12_compareNumbers_33 : decode cX12_compareNumbers 33 = .ok (.iconst (-1), 1) := by decide +kernel
theorem dX12_compareNumbers_34 : decode cX12_compareNumbers 34 = .ok (.goto 4, 3) := by decide +kernel
theorem dX12_compareNumbers_37 : decode cX12_compareNumbers 37 = .ok (.iconst 1, 1) := by decide +kernel
theorem dX12_compareNumbers_38 : decode cX12_compareNumbers 38 = .ok (.ireturn, 1) := by decide +kernel
theorem dX12_compareNumbers_39 : decode cX12_compareNumbers 39 = .ok (.iload_n 3, 1) := by decide +kernel
theorem dX12_compareNumbers_40 : decode cX12_compareNumbers 40 = .ok (.iconst 1, 1) := by decide +kernel
theorem dX12_compareNumbers_41 : decode cX12_compareNumbers 41 = .ok (.isub, 1) := by decide +kernel
theorem dX12_compareNumbers_42 : decode cX12_compareNumbers 42 = .ok (.istore 5, 2) := by decide +kernel
theorem dX12_compareNumbers_44 : decode cX12_compareNumbers 44 = .ok (.iload 5, 2) := by decide +kernel
theorem dX12_compareNumbers_46 : decode cX12_compareNumbers 46 = .ok (.ifCond .lt 59, 3) := by decide +kernel
theorem dX12_compareNumbers_49 : decode cX12_compareNumbers 49 = .ok (.aload_n 0, 1) := by decide +kernel
theorem dX12_compareNumbers_50 : decode cX12_compareNumbers 50 = .ok (.getfield 48, 3) := by decide +kernel
theorem dX12_compareNumbers_53 : decode cX12_compareNumbers 53 = .ok (.iload_n 1, 1) := by decide +kernel
theorem dX12_compareNumbers_54 : decode cX12_compareNumbers 54 = .ok (.iload 5, 2) := by decide +kernel
theorem dX12_compareNumbers_56 : decode cX12_compareNumbers 56 = .ok (.iadd, 1) := by decide +kernel
theorem dX12_compareNumbers_57 : decode cX12_compareNumbers 57 = .ok (.laload, 1) := by decide +kernel
theorem dX12_compareNumbers_58 : decode cX12_compareNumbers 58 = .ok (.aload_n 0, 1) := by decide +kernel
theorem dX12_compareNumbers_59 : decode cX12_compareNumbers 59 = .ok (.getfield 48, 3) := by decide +kernel
theorem dX12_compareNumbers_62 : decode cX12_compareNumbers 62 = .ok (.iload_n 2, 1) := by decide +kernel
theorem dX12_compareNumbers_63 : decode cX12_compareNumbers 63 = .ok (.iload 5, 2) := by decide +kernel
theorem dX12_compareNumbers_65 : decode cX12_compareNumbers 65 = .ok (.iadd, 1) := by decide +kernel
theorem dX12_compareNumbers_66 : decode cX12_compareNumbers 66 = .ok (.laload, 1) := by decide +kernel
theorem dX12_compareNumbers_67 : decode cX12_compareNumbers 67 = .ok (.lcmp, 1) := by decide +kernel
theorem dX12_compareNumbers_68 : decode cX12_compareNumbers 68 = .ok (.ifCond .eq 31, 3) := by decide +kernel
theorem dX12_compareNumbers_71 : decode cX12_compareNumbers 71 = .ok (.aload_n 0, 1) := by decide +kernel
theorem dX12_compareNumbers_72 : decode cX12_compareNumbers 72 = .ok (.getfield 48, 3) := by decide +kernel
theorem dX12_compareNumbers_75 : decode cX12_compareNumbers 75 = .ok (.iload_n 1, 1) := by decide +kernel
theorem dX12_compareNumbers_76 : decode cX12_compareNumbers 76 = .ok (.iload 5, 2) := by decide +kernel
theorem dX12_compareNumbers_78 : decode cX12_compareNumbers 78 = .ok (.iadd, 1) := by decide +kernel
theorem dX12_compareNumbers_79 : decode cX12_compareNumbers 79 = .ok (.laload, 1) := by decide +kernel
theorem dX12_compareNumbers_80 : decode cX12_compareNumbers 80 = .ok (.aload_n 0, 1) := by decide +kernel
theorem dX12_compareNumbers_81 : decode cX12_compareNumbers 81 = .ok (.getfield 48, 3) := by decide +kernel
theorem dX12_compareNumbers_84 : decode cX12_compareNumbers 84 = .ok (.iload_n 2, 1) := by decide +kernel
theorem dX12_compareNumbers_85 : decode cX12_compareNumbers 85 = .ok (.iload 5, 2) := by decide +kernel
theorem dX12_compareNumbers_87 : decode cX12_compareNumbers 87 = .ok (.iadd, 1) := by decide +kernel
theorem dX12_compareNumbers_88 : decode cX12_compareNumbers 88 = .ok (.laload, 1) := by decide +kernel
theorem dX12_compareNumbers_89 : decode cX12_compareNumbers 89 = .ok (.lcmp, 1) := by decide +kernel
theorem dX12_compareNumbers_90 : decode cX12_compareNumbers 90 = .ok (.ifCond .ge 7, 3) := by decide +kernel
theorem dX12_compareNumbers_93 : decode cX12_compareNumbers 93 = .ok (.iconst (-1), 1) := by decide +kernel
theorem dX12_compareNumbers_94 : decode cX12_compareNumbers 94 = .ok (.goto 4, 3) := by decide +kernel
theorem dX12_compareNumbers_97 : decode cX12_compareNumbers 97 = .ok (.iconst 1, 1) := by decide +kernel
theorem dX12_compareNumbers_98 : decode cX12_compareNumbers 98 = .ok (.ireturn, 1) := by decide +kernel
theorem dX12_compareNumbers_99 : decode cX12_compareNumbers 99 = .ok (.iinc 5 (-1), 3) := by decide +kernel
theorem dX12_compareNumbers_102 : decode cX12_compareNumbers 102 = .ok (.goto (-58), 3) := by decide +kernel
theorem dX12_compareNumbers_105 : decode cX12_compareNumbers 105 = .ok (.iconst 0, 1) := by decide +kernel
theorem dX12_compareNumbers_106 : decode cX12_compareNumbers 106 = .ok (.ireturn, 1) := by decide +kernel
theorem dX12_add_0 : decode cX12_add 0 = .ok (.aload_n 0, 1) := by decide +kernel
theorem dX12_add_1 : decode cX12_add 1 = .ok (.getfield 51, 3) := by decide +kernel
theorem dX12_add_4 : decode cX12_add 4 = .ok (.iload_n 1, 1) := by decide +kernel
theorem dX12_add_5 : decode cX12_add 5 = .ok (.bipush 90, 2) := by decide +kernel
theorem dX12_add_7 : decode cX12_add 7 = .ok (.idiv, 1) := by decide +kernel
theorem dX12_add_8 : decode cX12_add 8 = .ok (.iaload, 1) := by decide +kernel
theorem dX12_add_9 : decode cX12_add 9 = .ok (.istore_n 3, 1) := by decide +kernel
theorem dX12_add_10 : decode cX12_add 10 = .ok (.aload_n 0, 1) := by decide +kernel
theorem dX12_add_11 : decode cX12_add 11 = .ok (.getfield 51, 3) := by decide +kernel
theorem dX12_add_14 : decode cX12_add 14 = .ok (.iload_n 2, 1) := by decide +kernel
theorem dX12_add_15 : decode cX12_add 15 = .ok (.bipush 90, 2) := by decide +kernel
theorem dX12_add_17 : decode cX12_add 17 = .ok (.idiv, 1) := by decide +kernel
theorem dX12_add_18 : decode cX12_add 18 = .ok (.iaload, 1) := by decide +kernel
theorem dX12_add_19 : decode cX12_add 19 = .ok (.istore 4, 2) := by decide +kernel
theorem dX12_add_21 : decode cX12_add 21 = .ok (.iload_n 3, 1) := by decide +kernel
theorem dX12_add_22 : decode cX12_add 22 = .ok (.iload 4, 2) := by decide +kernel
theorem dX12_add_24 : decode cX12_add 24 = .ok (.if_icmp .le 7, 3) := by decide +kernel
theorem dX12_add_27 : decode cX12_add 27 = .ok (.iload_n 3, 1) := by decide +kernel
theorem dX12_add_28 : decode cX12_add 28 = .ok (.goto 5, 3) := by decide +kernel
theorem dX12_add_31 : decode cX12_add 31 = .ok (.iload 4, 2) := by decide +kernel
theorem dX12_add_33 : decode cX12_add 33 = .ok (.istore 5, 2) := by decide +kernel
theorem dX12_add_35 : decode cX12_add 35 = .ok (.lconst 0, 1) := by decide +kernel
theorem dX12_add_36 : decode cX12_add 36 = .ok (.lstore 6, 2) := by decide +kernel
theorem dX12_add_38 : decode cX12_add 38 = .ok (.iconst 0, 1) := by decide +kernel
theorem dX12_add_39 : decode cX12_add 39 = .ok (.istore 8, 2) := by decide +kernel
theorem dX12_add_41 : decode cX12_add 41 = .ok (.iload 8, 2) := by decide +kernel
theorem dX12_add_43 : decode cX12_add 43 = .ok (.iload 5, 2) := by decide +kernel
theorem dX12_add_45 : decode cX12_add 45 = .ok (.if_icmp .gt 76, 3) := by decide +kernel
theorem dX12_add_48 : decode cX12_add 48 = .ok (.iload 8, 2) := by decide +kernel
theorem dX12_add_50 : decode cX12_add 50 = .ok (.iload 4, 2) := by decide +kernel
theorem dX12_add_52 : decode cX12_add 52 = .ok (.if_icmp .ge 15, 3) := by decide +kernel
theorem dX12_add_55 : decode cX12_add 55 = .ok (.aload_n 0, 1) := by decide +kernel
theorem dX12_add_56 : decode cX12_add 56 = .ok (.getfield 48, 3) := by decide +kernel
theorem dX12_add_59 : decode cX12_add 59 = .ok (.iload_n 2, 1) := by decide +kernel
theorem dX12_add_60 : decode cX12_add 60 = .ok (.iload 8, 2) := by decide +kernel
theorem dX12_add_62 : decode cX12_add 62 = .ok (.iadd, 1) := by decide +kernel
theorem dX12_add_63 : decode cX12_add 63 = .ok (.laload, 1) := by decide +kernel
theorem dX12_add_64 : decode cX12_add 64 = .ok (.goto 4, 3) := by decide +kernel
theorem dX12_add_67 : decode cX12_add 67 = .ok (.lconst 0, 1) := by decide +kernel
theorem dX12_add_68 : decode cX12_add 68 = .ok (.iload 8, 2) := by decide +kernel
theorem dX12_add_70 : decode cX12_add 70 = .ok (.iload_n 3, 1) := by decide +kernel
theorem dX12_add_71 : decode cX12_add 71 = .ok (.if_icmp .ge 15, 3) := by decide +kernel
theorem dX12_add_74 : decode cX12_add 74 = .ok (.aload_n 0, 1) := by decide +kernel
theorem dX12_add_75 : decode cX12_add 75 = .ok (.getfield 48, 3) := by decide +kernel
theorem dX12_add_78 : decode cX12_add 78 = .ok (.iload_n 1, 1) := by decide +kernel
theorem dX12_add_79 : decode cX12_add 79 = .ok (.iload 8, 2) := by decide +kernel
theorem dX12_add_81 : decode cX12_add 81 = .ok (.iadd, 1) := by decide +kernel
theorem dX12_add_82 : decode cX12_add 82 = .ok (.laload, 1) := by decide +kernel
theorem dX12_add_83 : decode cX12_add 83 = .ok (.goto 4, 3) := by decide +kernel
theorem dX12_add_86 : decode cX12_add 86 = .ok (.lconst 0, 1) := by decide +kernel
theorem dX12_add_87 : decode cX12_add 87 = .ok (.ladd, 1) := by decide +kernel
theorem dX12_add_88 : decode cX12_add 88 = .ok (.lload 6, 2) := by decide +kernel
theorem dX12_add_90 : decode cX12_add 90 = .ok (.ladd, 1) := by decide +kernel
theorem dX12_add_91 : decode cX12_add 91 = .ok (.lstore 9, 2) := by decide +kernel
theorem dX12_add_93 : decode cX12_add 93 = .ok (.aload_n 0, 1) := by decide +kernel
theorem dX12_add_94 : decode cX12_add 94 = .ok (.getfield 48, 3) := by decide +kernel
theorem dX12_add_97 : decode cX12_add 97 = .ok (.iload_n 2, 1) := by decide +kernel
theorem dX12_add_98 : decode cX12_add 98 = .ok (.iload 8, 2) := by decide +kernel
theorem dX12_add_100 : decode cX12_add 100 = .ok (.iadd, 1) := by decide +kernel
theorem dX12_add_101 : decode cX12_add 101 = .ok (.lload 9, 2) := by decide +kernel
theorem dX12_add_103 : decode cX12_add 103 = .ok (.ldc2_w 202, 3) := by decide +kernel
theorem dX12_add_106 : decode cX12_add 106 = .ok (.land, 1) := by decide +kernel
theorem dX12_add_107 : decode cX12_add 107 = .ok (.lastore, 1) := by decide +kernel
theorem dX12_add_108 : decode cX12_add 108 = .ok (.lload 9, 2) := by decide +kernel
theorem dX12_add_110 : decode cX12_add 110 = .ok (.bipush 28, 2) := by decide +kernel
theorem dX12_add_112 : decode cX12_add 112 = .ok (.lushr, 1) := by decide +kernel
theorem dX12_add_113 : decode cX12_add 113 = .ok (.lstore 6, 2) := by decide +kernel
theorem dX12_add_115 : decode cX12_add 115 = .ok (.iinc 8 1, 3) := by decide +kernel
theorem dX12_add_118 : decode cX12_add 118 = .ok (.goto (-77), 3) := by decide +kernel
theorem dX12_add_121 : decode cX12_add 121 = .ok (.aload_n 0, 1) := by decide +kernel
theorem dX12_add_122 : decode cX12_add 122 = .ok (.getfield 51, 3) := by decide +kernel
theorem dX12_add_125 : decode cX12_add 125 = .ok (.iload_n 2, 1) := by decide +kernel
theorem dX12_add_126 : decode cX12_add 126 = .ok (.bipush 90, 2) := by decide +kernel
theorem dX12_add_128 : decode cX12_add 128 = .ok (.idiv, 1) := by decide +kernel
theorem dX12_add_129 : decode cX12_add 129 = .ok (.aload_n 0, 1) := by decide +kernel
theorem dX12_add_130 : decode cX12_add 130 = .ok (.getfield 48, 3) := by decide +kernel
theorem dX12_add_133 : decode cX12_add 133 = .ok (.iload_n 2, 1) := by decide +kernel
theorem dX12_add_134 : decode cX12_add 134 = .ok (.iload 5, 2) := by decide +kernel
theorem dX12_add_136 : decode cX12_add 136 = .ok (.iadd, 1) := by decide +kernel
theorem dX12_add_137 : decode cX12_add 137 = .ok (.laload, 1) := by decide +kernel
theorem dX12_add_138 : decode cX12_add 138 = .ok (.lconst 0, 1) := by decide +kernel
theorem dX12_add_139 : decode cX12_add 139 = .ok (.lcmp, 1) := by decide +kernel
theorem dX12_add_140 : decode cX12_add 140 = .ok (.ifCond .le 10, 3) := by decide +kernel
theorem dX12_add_143 : decode cX12_add 143 = .ok (.iload 5, 2) := by decide +kernel
theorem dX12_add_145 : decode cX12_add 145 = .ok (.iconst 1, 1) := by decide +kernel
theorem dX12_add_146 : decode cX12_add 146 = .ok (.iadd, 1) := by decide +kernel
theorem dX12_add_147 : decode cX12_add 147 = .ok (.goto 5, 3) := by decide +kernel
theorem dX12_add_150 : decode cX12_add 150 = .ok (.iload 5, 2) := by decide +kernel
theorem dX12_add_152 : decode cX12_add 152 = .ok (.iastore, 1) := by decide +kernel
theorem dX12_add_153 : decode cX12_add 153 = .ok (.return_, 1) := by decide +kernel
theorem dX12_raise_0 : decode cX12_raise 0 = .ok (.iconst 0, 1) := by decide +kernel
theorem dX12_raise_1 : decode cX12_raise 1 = .ok (.istore_n 3, 1) := by decide +kernel
theorem dX12_raise_2 : decode cX12_raise 2 = .ok (.iload_n 3, 1) := by decide +kernel
theorem dX12_raise_3 : decode cX12_raise 3 = .ok (.iload_n 2, 1) := by decide +kernel
theorem dX12_raise_4 : decode cX12_raise 4 = .ok (.if_icmp .ge 26, 3) := by decide +kernel
theorem dX12_raise_7 : decode cX12_raise 7 = .ok (.aload_n 0, 1) := by decide +kernel
theorem dX12_raise_8 : decode cX12_raise 8 = .ok (.iload_n 1, 1) := by decide +kernel
theorem dX12_raise_9 : decode cX12_raise 9 = .ok (.iload_n 1, 1) := by decide +kernel
theorem dX12_raise_10 : decode cX12_raise 10 = .ok (.sipush 360, 3) := by decide +kernel
theorem dX12_raise_13 : decode cX12_raise 13 = .ok (.invokevirtual 204, 3) := by decide +kernel
theorem dX12_raise_16 : decode cX12_raise 16 = .ok (.aload_n 0, 1) := by decide +kernel
theorem dX12_raise_17 : decode cX12_raise 17 = .ok (.sipush 360, 3) := by decide +kernel
theorem dX12_raise_20 : decode cX12_raise 20 = .ok (.iload_n 1, 1) := by decide +kernel
theorem dX12_raise_21 : decode cX12_raise 21 = .ok (.invokevirtual 208, 3) := by decide +kernel
theorem dX12_raise_24 : decode cX12_raise 24 = .ok (.iinc 3 1, 3) := by decide +kernel
theorem dX12_raise_27 : decode cX12_raise 27 = .ok (.goto (-25), 3) := by decide +kernel
theorem dX12_raise_30 : decode cX12_raise 30 = .ok (.return_, 1) := by decide +kernel
theorem dX12_takeThousand_0 : decode cX12_takeThousand 0 = .ok (.aload_n 0, 1) := by decide +kernel
theorem dX12_takeThousand_1 : decode cX12_takeThousand 1 = .ok (.getfield 57, 3) := by decide +kernel
theorem dX12_takeThousand_4 : decode cX12_takeThousand 4 = .ok (.iload_n 1, 1) := by decide +kernel
theorem dX12_takeThousand_5 : decode cX12_takeThousand 5 = .ok (.iaload, 1) := by decide +kernel
theorem dX12_takeThousand_6 : decode cX12_takeThousand 6 = .ok (.ifCond .ne 72, 3) := by decide +kernel
theorem dX12_takeThousand_9 : decode cX12_takeThousand 9 = .ok (.aload_n 0, 1) := by decide +kernel
theorem dX12_takeThousand_10 : decode cX12_takeThousand 10 = .ok (.iload_n 2, 1) := by decide +kernel
theorem dX12_takeThousand_11 : decode cX12_takeThousand 11 = .ok (.ldc2_w 212, 3) := by decide +kernel
theorem dX12_takeThousand_14 : decode cX12_takeThousand 14 = .ok (.invokevirtual 214, 3) := by decide +kernel
theorem dX12_takeThousand_17 : decode cX12_takeThousand 17 = .ok (.aload_n 0, 1) := by decide +kernel
theorem dX12_takeThousand_18 : decode cX12_takeThousand 18 = .ok (.iload_n 2, 1) := by decide +kernel
theorem dX12_takeThousand_19 : decode cX12_takeThousand 19 = .ok (.iload_n 1, 1) := by decide +kernel
theorem dX12_takeThousand_20 : decode cX12_takeThousand 20 = .ok (.invokevirtual 218, 3) := by decide +kernel
theorem dX12_takeThousand_23 : decode cX12_takeThousand 23 = .ok (.aload_n 0, 1) := by decide +kernel
theorem dX12_takeThousand_24 : decode cX12_takeThousand 24 = .ok (.getfield 57, 3) := by decide +kernel
theorem dX12_takeThousand_27 : decode cX12_takeThousand 27 = .ok (.iload_n 1, 1) := by decide +kernel
theorem dX12_takeThousand_28 : decode cX12_takeThousand 28 = .ok (.aload_n 0, 1) := by decide +kernel
theorem dX12_takeThousand_29 : decode cX12_takeThousand 29 = .ok (.getfield 51, 3) := by decide +kernel
theorem dX12_takeThousand_32 : decode cX12_takeThousand 32 = .ok (.iload_n 2, 1) := by decide +kernel
theorem dX12_takeThousand_33 : decode cX12_takeThousand 33 = .ok (.bipush 90, 2) := by decide +kernel
theorem dX12_takeThousand_35 : decode cX12_takeThousand 35 = .ok (.idiv, 1) := by decide +kernel
theorem dX12_takeThousand_36 : decode cX12_takeThousand 36 = .ok (.iaload, 1) := by decide +kernel
theorem dX12_takeThousand_37 : decode cX12_takeThousand 37 = .ok (.iastore, 1) := by decide +kernel
theorem dX12_takeThousand_38 : decode cX12_takeThousand 38 = .ok (.iconst 0, 1) := by decide +kernel
theorem dX12_takeThousand_39 : decode cX12_takeThousand 39 = .ok (.istore_n 3, 1) := by decide +kernel
theorem dX12_takeThousand_40 : decode cX12_takeThousand 40 = .ok (.iload_n 3, 1) := by decide +kernel
theorem dX12_takeThousand_41 : decode cX12_takeThousand 41 = .ok (.aload_n 0, 1) := by decide +kernel
theorem dX12_takeThousand_42 : decode cX12_takeThousand 42 = .ok (.getfield 51, 3) := by decide +kernel
theorem dX12_takeThousand_45 : decode cX12_takeThousand 45 = .ok (.iload_n 2, 1) := by decide +kernel
theorem dX12_takeThousand_46 : decode cX12_takeThousand 46 = .ok (.bipush 90, 2) := by decide +kernel
theorem dX12_takeThousand_48 : decode cX12_takeThousand 48 = .ok (.idiv, 1) := by decide +kernel
theorem dX12_takeThousand_49 : decode cX12_takeThousand 49 = .ok (.iaload, 1) := by decide +kernel
theorem dX12_takeThousand_50 : decode cX12_takeThousand 50 = .ok (.if_icmp .ge 28, 3) := by decide +kernel
theorem dX12_takeThousand_53 : decode cX12_takeThousand 53 = .ok (.aload_n 0, 1) := by decide +kernel
theorem dX12_takeThousand_54 : decode cX12_takeThousand 54 = .ok (.getfield 54, 3) := by decide +kernel
theorem dX12_takeThousand_57 : decode cX12_takeThousand 57 = .ok (.bipush 90, 2) := by decide +kernel
theorem dX12_takeThousand_59 : decode cX12_takeThousand 59 = .ok (.iload_n 1, 1) := by decide +kernel
theorem dX12_takeThousand_60 : decode cX12_takeThousand 60 = .ok (.imul, 1) := by decide +kernel
theorem dX12_takeThousand_61 : decode cX12_takeThousand 61 = .ok (.iload_n 3, 1) := by decide +kernel
theorem dX12_takeThousand_62 : decode cX12_takeThousand 62 = .ok (.iadd, 1) := by decide +kernel
theorem dX12_takeThousand_63 : decode cX12_takeThousand 63 = .ok (.aload_n 0, 1) := by decide +kernel
theorem dX12_takeThousand_64 : decode cX12_takeThousand 64 = .ok (.getfield 48, 3) := by decide +kernel
theorem dX12_takeThousand_67 : decode cX12_takeThousand 67 = .ok (.iload_n 2, 1) := by decide +kernel
theorem dX12_takeThousand_68 : decode cX12_takeThousand 68 = .ok (.iload_n 3, 1) := by decide +kernel
theorem dX12_takeThousand_69 : decode cX12_takeThousand 69 = .ok (.iadd, 1) := by decide +kernel
theorem dX12_takeThousand_70 : decode cX12_takeThousand 70 = .ok (.laload, 1) := by decide +kernel
theorem dX12_takeThousand_71 : decode cX12_takeThousand 71 = .ok (.lastore, 1) := by decide +kernel
theorem dX12_takeThousand_72 : decode cX12_takeThousand 72 = .ok (.iinc 3 1, 3) := by decide +kernel
theorem dX12_takeThousand_75 : decode cX12_takeThousand 75 = .ok (.goto (-35), 3) := by decide +kernel
theorem dX12_takeThousand_78 : decode cX12_takeThousand 78 = .ok (.aload_n 0, 1) := by decide +kernel
theorem dX12_takeThousand_79 : decode cX12_takeThousand 79 = .ok (.getfield 51, 3) := by decide +kernel
theorem dX12_takeThousand_82 : decode cX12_takeThousand 82 = .ok (.iload_n 2, 1) := by decide +kernel
theorem dX12_takeThousand_83 : decode cX12_takeThousand 83 = .ok (.bipush 90, 2) := by decide +kernel
theorem dX12_takeThousand_85 : decode cX12_takeThousand 85 = .ok (.idiv, 1) := by decide +kernel
theorem dX12_takeThousand_86 : decode cX12_takeThousand 86 = .ok (.aload_n 0, 1) := by decide +kernel
theorem dX12_takeThousand_87 : decode cX12_takeThousand 87 = .ok (.getfield 57, 3) := by decide +kernel
theorem dX12_takeThousand_90 : decode cX12_takeThousand 90 = .ok (.iload_n 1, 1) := by decide +kernel
theorem dX12_takeThousand_91 : decode cX12_takeThousand 91 = .ok (.iaload, 1) := by decide +kernel
theorem dX12_takeThousand_92 : decode cX12_takeThousand 92 = .ok (.iastore, 1) := by decide +kernel
theorem dX12_takeThousand_93 : decode cX12_takeThousand 93 = .ok (.iconst 0, 1) := by decide +kernel
theorem dX12_takeThousand_94 : decode cX12_takeThousand 94 = .ok (.istore_n 3, 1) := by decide +kernel
theorem dX12_takeThousand_95 : decode cX12_takeThousand 95 = .ok (.iload_n 3, 1) := by decide +kernel
theorem dX12_takeThousand_96 : decode cX12_takeThousand 96 = .ok (.aload_n 0, 1) := by decide +kernel
theorem dX12_takeThousand_97 : decode cX12_takeThousand 97 = .ok (.getfield 57, 3) := by decide +kernel
theorem dX12_takeThousand_100 : decode cX12_takeThousand 100 = .ok (.iload_n 1, 1) := by decide +kernel
theorem dX12_takeThousand_101 : decode cX12_takeThousand 101 = .ok (.iaload, 1) := by decide +kernel
theorem dX12_takeThousand_102 : decode cX12_takeThousand 102 = .ok (.if_icmp .ge 28, 3) := by decide +kernel
theorem dX12_takeThousand_105 : decode cX12_takeThousand 105 = .ok (.aload_n 0, 1) := by decide +kernel
theorem dX12_takeThousand_106 : decode cX12_takeThousand 106 = .ok (.getfield 48, 3) := by decide +kernel
theorem dX12_takeThousand_109 : decode cX12_takeThousand 109 = .ok (.iload_n 2, 1) := by decide +kernel
theorem dX12_takeThousand_110 : decode cX12_takeThousand 110 = .ok (.iload_n 3, 1) := by decide +kernel
theorem dX12_takeThousand_111 : decode cX12_takeThousand 111 = .ok (.iadd, 1) := by decide +kernel
theorem dX12_takeThousand_112 : decode cX12_takeThousand 112 = .ok (.aload_n 0, 1) := by decide +kernel
theorem dX12_takeThousand_113 : decode cX12_takeThousand 113 = .ok (.getfield 54, 3) := by decide +kernel
theorem dX12_takeThousand_116 : decode cX12_takeThousand 116 = .ok (.bipush 90, 2) := by decide +kernel
theorem dX12_takeThousand_118 : decode cX12_takeThousand 118 = .ok (.iload_n 1, 1) := by decide +kernel
theorem dX12_takeThousand_119 : decode cX12_takeThousand 119 = .ok (.imul, 1) := by decide +kernel
theorem dX12_takeThousand_120 : decode cX12_takeThousand 120 = .ok (.iload_n 3, 1) := by decide +kernel
theorem dX12_takeThousand_121 : decode cX12_takeThousand 121 = .ok (.iadd, 1) := by decide +kernel
theorem dX12_takeThousand_122 : decode cX12_takeThousand 122 = .ok (.laload, 1) := by decide +kernel
theorem dX12_takeThousand_123 : decode cX12_takeThousand 123 = .ok (.lastore, 1) := by decide +kernel
theorem dX12_takeThousand_124 : decode cX12_takeThousand 124 = .ok (.iinc 3 1, 3) := by decide +kernel
theorem dX12_takeThousand_127 : decode cX12_takeThousand 127 = .ok (.goto (-32), 3) := by decide +kernel
theorem dX12_takeThousand_130 : decode cX12_takeThousand 130 = .ok (.return_, 1) := by decide +kernel
theorem dX12_choose_0 : decode cX12_choose 0 = .ok (.lconst 1, 1) := by decide +kernel
theorem dX12_choose_1 : decode cX12_choose 1 = .ok (.lstore_n 2, 1) := by decide +kernel
theorem dX12_choose_2 : decode cX12_choose 2 = .ok (.iconst 1, 1) := by decide +kernel
theorem dX12_choose_3 : decode cX12_choose 3 = .ok (.istore 4, 2) := by decide +kernel
theorem dX12_choose_5 : decode cX12_choose 5 = .ok (.iload 4, 2) := by decide +kernel
theorem dX12_choose_7 : decode cX12_choose 7 = .ok (.iload_n 1, 1) := by decide +kernel
theorem dX12_choose_8 : decode cX12_choose 8 = .ok (.if_icmp .gt 23, 3) := by decide +kernel
theorem dX12_choose_11 : decode cX12_choose 11 = .ok (.lload_n 2, 1) := by decide +kernel
theorem dX12_choose_12 : decode cX12_choose 12 = .ok (.iload_n 0, 1) := by decide +kernel
theorem dX12_choose_13 : decode cX12_choose 13 = .ok (.iload_n 1, 1) := by decide +kernel
theorem dX12_choose_14 : decode cX12_choose 14 = .ok (.isub, 1) := by decide +kernel
theorem dX12_choose_15 : decode cX12_choose 15 = .ok (.iload 4, 2) := by decide +kernel
theorem dX12_choose_17 : decode cX12_choose 17 = .ok (.iadd, 1) := by decide +kernel
theorem dX12_choose_18 : decode cX12_choose 18 = .ok (.i2l, 1) := by decide +kernel
theorem dX12_choose_19 : decode cX12_choose 19 = .ok (.lmul, 1) := by decide +kernel
theorem dX12_choose_20 : decode cX12_choose 20 = .ok (.iload 4, 2) := by decide +kernel
theorem dX12_choose_22 : decode cX12_choose 22 = .ok (.i2l, 1) := by decide +kernel
theorem dX12_choose_23 : decode cX12_choose 23 = .ok (.ldiv, 1) := by decide +kernel
theorem dX12_choose_24 : decode cX12_choose 24 = .ok (.lstore_n 2, 1) := by decide +kernel
theorem dX12_choose_25 : decode cX12_choose 25 = .ok (.iinc 4 1, 3) := by decide +kernel
theorem dX12_choose_28 : decode cX12_choose 28 = .ok (.goto (-23), 3) := by decide +kernel
theorem dX12_choose_31 : decode cX12_choose 31 = .ok (.lload_n 2, 1) := by decide +kernel
theorem dX12_choose_32 : decode cX12_choose 32 = .ok (.lreturn, 1) := by decide +kernel
theorem dX12_isLow_0 : decode cX12_isLow 0 = .ok (.iconst 0, 1) := by decide +kernel
theorem dX12_isLow_1 : decode cX12_isLow 1 = .ok (.istore_n 3, 1) := by decide +kernel
theorem dX12_isLow_2 : decode cX12_isLow 2 = .ok (.iconst 0, 1) := by decide +kernel
theorem dX12_isLow_3 : decode cX12_isLow 3 = .ok (.istore 4, 2) := by decide +kernel
theorem dX12_isLow_5 : decode cX12_isLow 5 = .ok (.iload 4, 2) := by decide +kernel
theorem dX12_isLow_7 : decode cX12_isLow 7 = .ok (.aload_n 0, 1) := by decide +kernel
theorem dX12_isLow_8 : decode cX12_isLow 8 = .ok (.getfield 183, 3) := by decide +kernel
theorem dX12_isLow_11 : decode cX12_isLow 11 = .ok (.if_icmp .gt 151, 3) := by decide +kernel
theorem dX12_isLow_14 : decode cX12_isLow 14 = .ok (.iload_n 3, 1) := by decide +kernel
theorem dX12_isLow_15 : decode cX12_isLow 15 = .ok (.ifCond .ne 147, 3) := by decide +kernel
theorem dX12_isLow_18 : decode cX12_isLow 18 = .ok (.aload_n 0, 1) := by decide +kernel
theorem dX12_isLow_19 : decode cX12_isLow 19 = .ok (.getfield 45, 3) := by decide +kernel
theorem dX12_isLow_22 : decode cX12_isLow 22 = .ok (.bipush 13, 2) := by decide +kernel
theorem dX12_isLow_24 : decode cX12_isLow 24 = .ok (.iload_n 1, 1) := by decide +kernel
theorem dX12_isLow_25 : decode cX12_isLow 25 = .ok (.imul, 1) := by decide +kernel
theorem dX12_isLow_26 : decode cX12_isLow 26 = .ok (.iload 4, 2) := by decide +kernel
theorem dX12_isLow_28 : decode cX12_isLow 28 = .ok (.iadd, 1) := by decide +kernel
theorem dX12_isLow_29 : decode cX12_isLow 29 = .ok (.laload, 1) := by decide +kernel
theorem dX12_isLow_30 : decode cX12_isLow 30 = .ok (.invokestatic 146, 3) := by decide +kernel
theorem dX12_isLow_33 : decode cX12_isLow 33 = .ok (.lstore 5, 2) := by decide +kernel
theorem dX12_isLow_35 : decode cX12_isLow 35 = .ok (.lload 5, 2) := by decide +kernel
theorem dX12_isLow_37 : decode cX12_isLow 37 = .ok (.lconst 0, 1) := by decide +kernel
theorem dX12_isLow_38 : decode cX12_isLow 38 = .ok (.lcmp, 1) := by decide +kernel
theorem dX12_isLow_39 : decode cX12_isLow 39 = .ok (.ifCond .gt 26, 3) := by decide +kernel
theorem dX12_isLow_42 : decode cX12_isLow 42 = .ok (.iload_n 2, 1) := by decide +kernel
theorem dX12_isLow_43 : decode cX12_isLow 43 = .ok (.ifCond .eq 22, 3) := by decide +kernel
theorem dX12_isLow_46 : decode cX12_isLow 46 = .ok (.aload_n 0, 1) := by decide +kernel
theorem dX12_isLow_47 : decode cX12_isLow 47 = .ok (.getfield 45, 3) := by decide +kernel
theorem dX12_isLow_50 : decode cX12_isLow 50 = .ok (.bipush 13, 2) := by decide +kernel
theorem dX12_isLow_52 : decode cX12_isLow 52 = .ok (.iload_n 1, 1) := by decide +kernel
theorem dX12_isLow_53 : decode cX12_isLow 53 = .ok (.imul, 1) := by decide +kernel
theorem dX12_isLow_54 : decode cX12_isLow 54 = .ok (.iload 4, 2) := by decide +kernel
theorem dX12_isLow_56 : decode cX12_isLow 56 = .ok (.iadd, 1) := by decide +kernel
theorem dX12_isLow_57 : decode cX12_isLow 57 = .ok (.laload, 1) := by decide +kernel
theorem dX12_isLow_58 : decode cX12_isLow 58 = .ok (.ldc2_w 177, 3) := by decide +kernel
theorem dX12_isLow_61 : decode cX12_isLow 61 = .ok (.lcmp, 1) := by decide +kernel
theorem dX12_isLow_62 : decode cX12_isLow 62 = .ok (.ifCond .ne 94, 3) := by decide +kernel
theorem dX12_isLow_65 : decode cX12_isLow 65 = .ok (.aload_n 0, 1) := by decide +kernel
theorem dX12_isLow_66 : decode cX12_isLow 66 = .ok (.iconst 0, 1) := by decide +kernel
theorem dX12_isLow_67 : decode cX12_isLow 67 = .ok (.iload_n 2, 1) := by decide +kernel
theorem dX12_isLow_68 : decode cX12_isLow 68 = .ok (.i2l, 1) := by decide +kernel
theorem dX12_isLow_69 : decode cX12_isLow 69 = .ok (.invokevirtual 214, 3) := by decide +kernel
theorem dX12_isLow_72 : decode cX12_isLow 72 = .ok (.aload_n 0, 1) := by decide +kernel
theorem dX12_isLow_73 : decode cX12_isLow 73 = .ok (.iconst 0, 1) := by decide +kernel
theorem dX12_isLow_74 : decode cX12_isLow 74 = .ok (.iload_n 1, 1) := by decide +kernel
theorem dX12_isLow_75 : decode cX12_isLow 75 = .ok (.invokevirtual 218, 3) := by decide +kernel
theorem dX12_isLow_78 : decode cX12_isLow 78 = .ok (.aload_n 0, 1) := by decide +kernel
theorem dX12_isLow_79 : decode cX12_isLow 79 = .ok (.bipush 90, 2) := by decide +kernel
theorem dX12_isLow_81 : decode cX12_isLow 81 = .ok (.aload_n 0, 1) := by decide +kernel
theorem dX12_isLow_82 : decode cX12_isLow 82 = .ok (.getfield 183, 3) := by decide +kernel
theorem dX12_isLow_85 : decode cX12_isLow 85 = .ok (.iload 4, 2) := by decide +kernel
theorem dX12_isLow_87 : decode cX12_isLow 87 = .ok (.invokestatic 221, 3) := by decide +kernel
theorem dX12_isLow_90 : decode cX12_isLow 90 = .ok (.invokevirtual 214, 3) := by decide +kernel
theorem dX12_isLow_93 : decode cX12_isLow 93 = .ok (.aload_n 0, 1) := by decide +kernel
theorem dX12_isLow_94 : decode cX12_isLow 94 = .ok (.iconst 0, 1) := by decide +kernel
theorem dX12_isLow_95 : decode cX12_isLow 95 = .ok (.bipush 90, 2) := by decide +kernel
theorem dX12_isLow_97 : decode cX12_isLow 97 = .ok (.sipush 180, 3) := by decide +kernel
theorem dX12_isLow_100 : decode cX12_isLow 100 = .ok (.invokevirtual 204, 3) := by decide +kernel
theorem dX12_isLow_103 : decode cX12_isLow 103 = .ok (.aload_n 0, 1) := by decide +kernel
theorem dX12_isLow_104 : decode cX12_isLow 104 = .ok (.iload_n 1, 1) := by decide +kernel
theorem dX12_isLow_105 : decode cX12_isLow 105 = .ok (.iconst 0, 1) := by decide +kernel
theorem dX12_isLow_106 : decode cX12_isLow 106 = .ok (.invokevirtual 225, 3) := by decide +kernel
theorem dX12_isLow_109 : decode cX12_isLow 109 = .ok (.aload_n 0, 1) := by decide +kernel
theorem dX12_isLow_110 : decode cX12_isLow 110 = .ok (.bipush 90, 2) := by decide +kernel
theorem dX12_isLow_112 : decode cX12_isLow 112 = .ok (.aload_n 0, 1) := by decide +kernel
theorem dX12_isLow_113 : decode cX12_isLow 113 = .ok (.getfield 45, 3) := by decide +kernel
theorem dX12_isLow_116 : decode cX12_isLow 116 = .ok (.bipush 13, 2) := by decide +kernel
theorem dX12_isLow_118 : decode cX12_isLow 118 = .ok (.iload_n 1, 1) := by decide +kernel
theorem dX12_isLow_119 : decode cX12_isLow 119 = .ok (.imul, 1) := by decide +kernel
theorem dX12_isLow_120 : decode cX12_isLow 120 = .ok (.iload 4, 2) := by decide +kernel
theorem dX12_isLow_122 : decode cX12_isLow 122 = .ok (.iadd, 1) := by decide +kernel
theorem dX12_isLow_123 : decode cX12_isLow 123 = .ok (.laload, 1) := by decide +kernel
theorem dX12_isLow_124 : decode cX12_isLow 124 = .ok (.invokevirtual 228, 3) := by decide +kernel
theorem dX12_isLow_127 : decode cX12_isLow 127 = .ok (.aload_n 0, 1) := by decide +kernel
theorem dX12_isLow_128 : decode cX12_isLow 128 = .ok (.iconst 0, 1) := by decide +kernel
theorem dX12_isLow_129 : decode cX12_isLow 129 = .ok (.bipush 90, 2) := by decide +kernel
theorem dX12_isLow_131 : decode cX12_isLow 131 = .ok (.sipush 270, 3) := by decide +kernel
theorem dX12_isLow_134 : decode cX12_isLow 134 = .ok (.invokevirtual 204, 3) := by decide +kernel
theorem dX12_isLow_137 : decode cX12_isLow 137 = .ok (.aload_n 0, 1) := by decide +kernel
theorem dX12_isLow_138 : decode cX12_isLow 138 = .ok (.sipush 180, 3) := by decide +kernel
theorem dX12_isLow_141 : decode cX12_isLow 141 = .ok (.sipush 270, 3) := by decide +kernel
theorem dX12_isLow_144 : decode cX12_isLow 144 = .ok (.invokevirtual 231, 3) := by decide +kernel
theorem dX12_isLow_147 : decode cX12_isLow 147 = .ok (.ifCond .gt 7, 3) := by decide +kernel
theorem dX12_isLow_150 : decode cX12_isLow 150 = .ok (.iconst 1, 1) := by decide +kernel
theorem dX12_isLow_151 : decode cX12_isLow 151 = .ok (.goto 4, 3) := by decide +kernel
theorem dX12_isLow_154 : decode cX12_isLow 154 = .ok (.iconst 0, 1) := by decide +kernel
theorem dX12_isLow_155 : decode cX12_isLow 155 = .ok (.istore_n 3, 1) := by decide +kernel
theorem dX12_isLow_156 : decode cX12_isLow 156 = .ok (.iinc 4 1, 3) := by decide +kernel
theorem dX12_isLow_159 : decode cX12_isLow 159 = .ok (.goto (-154), 3) := by decide +kernel
theorem dX12_isLow_162 : decode cX12_isLow 162 = .ok (.iload_n 3, 1) := by decide +kernel
theorem dX12_isLow_163 : decode cX12_isLow 163 = .ok (.ireturn, 1) := by decide +kernel
theorem dX12_layLong_0 : decode cX12_layLong 0 = .ok (.lload_n 2, 1) := by decide +kernel
theorem dX12_layLong_1 : decode cX12_layLong 1 = .ok (.ldc2_w 177, 3) := by decide +kernel
theorem dX12_layLong_4 : decode cX12_layLong 4 = .ok (.lcmp, 1) := by decide +kernel
theorem dX12_layLong_5 : decode cX12_layLong 5 = .ok (.ifCond .ne 43, 3) := by decide +kernel
theorem dX12_layLong_8 : decode cX12_layLong 8 = .ok (.aload_n 0, 1) := by decide +kernel
theorem dX12_layLong_9 : decode cX12_layLong 9 = .ok (.getfield 48, 3) := by decide +kernel
theorem dX12_layLong_12 : decode cX12_layLong 12 = .ok (.iload_n 1, 1) := by decide +kernel
theorem dX12_layLong_13 : decode cX12_layLong 13 = .ok (.lconst 0, 1) := by decide +kernel
theorem dX12_layLong_14 : decode cX12_layLong 14 = .ok (.lastore, 1) := by decide +kernel
theorem dX12_layLong_15 : decode cX12_layLong 15 = .ok (.aload_n 0, 1) := by decide +kernel
theorem dX12_layLong_16 : decode cX12_layLong 16 = .ok (.getfield 48, 3) := by decide +kernel
theorem dX12_layLong_19 : decode cX12_layLong 19 = .ok (.iload_n 1, 1) := by decide +kernel
theorem dX12_layLong_20 : decode cX12_layLong 20 = .ok (.iconst 1, 1) := by decide +kernel
theorem dX12_layLong_21 : decode cX12_layLong 21 = .ok (.iadd, 1) := by decide +kernel
theorem dX12_layLong_22 : decode cX12_layLong 22 = .ok (.lconst 0, 1) := by decide +kernel
theorem dX12_layLong_23 : decode cX12_layLong 23 = .ok (.lastore, 1) := by decide +kernel
theorem dX12_layLong_24 : decode cX12_layLong 24 = .ok (.aload_n 0, 1) := by decide +kernel
theorem dX12_layLong_25 : decode cX12_layLong 25 = .ok (.getfield 48, 3) := by decide +kernel
theorem dX12_layLong_28 : decode cX12_layLong 28 = .ok (.iload_n 1, 1) := by decide +kernel
theorem dX12_layLong_29 : decode cX12_layLong 29 = .ok (.iconst 2, 1) := by decide +kernel
theorem dX12_layLong_30 : decode cX12_layLong 30 = .ok (.iadd, 1) := by decide +kernel
theorem dX12_layLong_31 : decode cX12_layLong 31 = .ok (.ldc2_w 234, 3) := by decide +kernel
theorem dX12_layLong_34 : decode cX12_layLong 34 = .ok (.lastore, 1) := by decide +kernel
theorem dX12_layLong_35 : decode cX12_layLong 35 = .ok (.aload_n 0, 1) := by decide +kernel
theorem dX12_layLong_36 : decode cX12_layLong 36 = .ok (.getfield 51, 3) := by decide +kernel
theorem dX12_layLong_39 : decode cX12_layLong 39 = .ok (.iload_n 1, 1) := by decide +kernel
theorem dX12_layLong_40 : decode cX12_layLong 40 = .ok (.bipush 90, 2) := by decide +kernel
theorem dX12_layLong_42 : decode cX12_layLong 42 = .ok (.idiv, 1) := by decide +kernel
theorem dX12_layLong_43 : decode cX12_layLong 43 = .ok (.iconst 3, 1) := by decide +kernel
theorem dX12_layLong_44 : decode cX12_layLong 44 = .ok (.iastore, 1) := by decide +kernel
theorem dX12_layLong_45 : decode cX12_layLong 45 = .ok (.goto 12, 3) := by decide +kernel
theorem dX12_layLong_48 : decode cX12_layLong 48 = .ok (.aload_n 0, 1) := by decide +kernel
theorem dX12_layLong_49 : decode cX12_layLong 49 = .ok (.iload_n 1, 1) := by decide +kernel
theorem dX12_layLong_50 : decode cX12_layLong 50 = .ok (.lload_n 2, 1) := by decide +kernel
theorem dX12_layLong_51 : decode cX12_layLong 51 = .ok (.invokestatic 146, 3) := by decide +kernel
theorem dX12_layLong_54 : decode cX12_layLong 54 = .ok (.invokevirtual 214, 3) := by decide +kernel
theorem dX12_layLong_57 : decode cX12_layLong 57 = .ok (.return_, 1) := by decide +kernel
theorem dX12_laySquares_0 : decode cX12_laySquares 0 = .ok (.aload_n 0, 1) := by decide +kernel
theorem dX12_laySquares_1 : decode cX12_laySquares 1 = .ok (.getfield 51, 3) := by decide +kernel
theorem dX12_laySquares_4 : decode cX12_laySquares 4 = .ok (.iconst 2, 1) := by decide +kernel
theorem dX12_laySquares_5 : decode cX12_laySquares 5 = .ok (.iconst 0, 1) := by decide +kernel
theorem dX12_laySquares_6 : decode cX12_laySquares 6 = .ok (.iastore, 1) := by decide +kernel
theorem dX12_laySquares_7 : decode cX12_laySquares 7 = .ok (.iconst 0, 1) := by decide +kernel
theorem dX12_laySquares_8 : decode cX12_laySquares 8 = .ok (.istore_n 2, 1) := by decide +kernel
theorem dX12_laySquares_9 : decode cX12_laySquares 9 = .ok (.iload_n 2, 1) := by decide +kernel
theorem dX12_laySquares_10 : decode cX12_laySquares 10 = .ok (.aload_n 0, 1) := by decide +kernel
theorem dX12_laySquares_11 : decode cX12_laySquares 11 = .ok (.getfield 183, 3) := by decide +kernel
theorem dX12_laySquares_14 : decode cX12_laySquares 14 = .ok (.if_icmp .gt 52, 3) := by decide +kernel
theorem dX12_laySquares_17 : decode cX12_laySquares 17 = .ok (.aload_n 0, 1) := by decide +kernel
theorem dX12_laySquares_18 : decode cX12_laySquares 18 = .ok (.iconst 0, 1) := by decide +kernel
theorem dX12_laySquares_19 : decode cX12_laySquares 19 = .ok (.aload_n 0, 1) := by decide +kernel
theorem dX12_laySquares_20 : decode cX12_laySquares 20 = .ok (.getfield 45, 3) := by decide +kernel
theorem dX12_laySquares_23 : decode cX12_laySquares 23 = .ok (.bipush 13, 2) := by decide +kernel
theorem dX12_laySquares_25 : decode cX12_laySquares 25 = .ok (.iload_n 1, 1) := by decide +kernel
theorem dX12_laySquares_26 : decode cX12_laySquares 26 = .ok (.imul, 1) := by decide +kernel
theorem dX12_laySquares_27 : decode cX12_laySquares 27 = .ok (.iload_n 2, 1) := by decide +kernel
theorem dX12_laySquares_28 : decode cX12_laySquares 28 = .ok (.iadd, 1) := by decide +kernel
theorem dX12_laySquares_29 : decode cX12_laySquares 29 = .ok (.laload, 1) := by decide +kernel
theorem dX12_laySquares_30 : decode cX12_laySquares 30 = .ok (.invokevirtual 228, 3) := by decide +kernel
theorem dX12_laySquares_33 : decode cX12_laySquares 33 = .ok (.aload_n 0, 1) := by decide +kernel
theorem dX12_laySquares_34 : decode cX12_laySquares 34 = .ok (.iconst 0, 1) := by decide +kernel
theorem dX12_laySquares_35 : decode cX12_laySquares 35 = .ok (.bipush 90, 2) := by decide +kernel
theorem dX12_laySquares_37 : decode cX12_laySquares 37 = .ok (.invokevirtual 208, 3) := by decide +kernel
theorem dX12_laySquares_40 : decode cX12_laySquares 40 = .ok (.aload_n 0, 1) := by decide +kernel
theorem dX12_laySquares_41 : decode cX12_laySquares 41 = .ok (.iconst 0, 1) := by decide +kernel
theorem dX12_laySquares_42 : decode cX12_laySquares 42 = .ok (.bipush 90, 2) := by decide +kernel
theorem dX12_laySquares_44 : decode cX12_laySquares 44 = .ok (.sipush 360, 3) := by decide +kernel
theorem dX12_laySquares_47 : decode cX12_laySquares 47 = .ok (.invokevirtual 204, 3) := by decide +kernel
theorem dX12_laySquares_50 : decode cX12_laySquares 50 = .ok (.aload_n 0, 1) := by decide +kernel
theorem dX12_laySquares_51 : decode cX12_laySquares 51 = .ok (.sipush 360, 3) := by decide +kernel
theorem dX12_laySquares_54 : decode cX12_laySquares 54 = .ok (.sipush 180, 3) := by decide +kernel
theorem dX12_laySquares_57 : decode cX12_laySquares 57 = .ok (.invokevirtual 236, 3) := by decide +kernel
theorem dX12_laySquares_60 : decode cX12_laySquares 60 = .ok (.iinc 2 1, 3) := by decide +kernel
theorem dX12_laySquares_63 : decode cX12_laySquares 63 = .ok (.goto (-54), 3) := by decide +kernel
theorem dX12_laySquares_66 : decode cX12_laySquares 66 = .ok (.aload_n 0, 1) := by decide +kernel
theorem dX12_laySquares_67 : decode cX12_laySquares 67 = .ok (.iload_n 1, 1) := by decide +kernel
theorem dX12_laySquares_68 : decode cX12_laySquares 68 = .ok (.iconst 1, 1) := by decide +kernel
theorem dX12_laySquares_69 : decode cX12_laySquares 69 = .ok (.iadd, 1) := by decide +kernel
theorem dX12_laySquares_70 : decode cX12_laySquares 70 = .ok (.iconst 0, 1) := by decide +kernel
theorem dX12_laySquares_71 : decode cX12_laySquares 71 = .ok (.invokevirtual 225, 3) := by decide +kernel
theorem dX12_laySquares_74 : decode cX12_laySquares 74 = .ok (.aload_n 0, 1) := by decide +kernel
theorem dX12_laySquares_75 : decode cX12_laySquares 75 = .ok (.iconst 0, 1) := by decide +kernel
theorem dX12_laySquares_76 : decode cX12_laySquares 76 = .ok (.sipush 180, 3) := by decide +kernel
theorem dX12_laySquares_79 : decode cX12_laySquares 79 = .ok (.sipush 270, 3) := by decide +kernel
theorem dX12_laySquares_82 : decode cX12_laySquares 82 = .ok (.invokevirtual 204, 3) := by decide +kernel
theorem dX12_laySquares_85 : decode cX12_laySquares 85 = .ok (.return_, 1) := by decide +kernel
theorem dX12_lowOf_0 : decode cX12_lowOf 0 = .ok (.iconst 1, 1) := by decide +kernel
theorem dX12_lowOf_1 : decode cX12_lowOf 1 = .ok (.istore_n 2, 1) := by decide +kernel
theorem dX12_lowOf_2 : decode cX12_lowOf 2 = .ok (.aload_n 0, 1) := by decide +kernel
theorem dX12_lowOf_3 : decode cX12_lowOf 3 = .ok (.iload_n 1, 1) := by decide +kernel
theorem dX12_lowOf_4 : decode cX12_lowOf 4 = .ok (.iload_n 2, 1) := by decide +kernel
theorem dX12_lowOf_5 : decode cX12_lowOf 5 = .ok (.invokevirtual 239, 3) := by decide +kernel
theorem dX12_lowOf_8 : decode cX12_lowOf 8 = .ok (.ifCond .eq 10, 3) := by decide +kernel
theorem dX12_lowOf_11 : decode cX12_lowOf 11 = .ok (.iload_n 2, 1) := by decide +kernel
theorem dX12_lowOf_12 : decode cX12_lowOf 12 = .ok (.iconst 2, 1) := by decide +kernel
theorem dX12_lowOf_13 : decode cX12_lowOf 13 = .ok (.imul, 1) := by decide +kernel
theorem dX12_lowOf_14 : decode cX12_lowOf 14 = .ok (.istore_n 2, 1) := by decide +kernel
theorem dX12_lowOf_15 : decode cX12_lowOf 15 = .ok (.goto (-13), 3) := by decide +kernel
theorem dX12_lowOf_18 : decode cX12_lowOf 18 = .ok (.iload_n 2, 1) := by decide +kernel
theorem dX12_lowOf_19 : decode cX12_lowOf 19 = .ok (.iconst 2, 1) := by decide +kernel
theorem dX12_lowOf_20 : decode cX12_lowOf 20 = .ok (.idiv, 1) := by decide +kernel
theorem dX12_lowOf_21 : decode cX12_lowOf 21 = .ok (.istore_n 3, 1) := by decide +kernel
theorem dX12_lowOf_22 : decode cX12_lowOf 22 = .ok (.iload_n 2, 1) := by decide +kernel
theorem dX12_lowOf_23 : decode cX12_lowOf 23 = .ok (.iload_n 3, 1) := by decide +kernel
theorem dX12_lowOf_24 : decode cX12_lowOf 24 = .ok (.isub, 1) := by decide +kernel
theorem dX12_lowOf_25 : decode cX12_lowOf 25 = .ok (.iconst 1, 1) := by decide +kernel
theorem dX12_lowOf_26 : decode cX12_lowOf 26 = .ok (.if_icmp .le 32, 3) := by decide +kernel
theorem dX12_lowOf_29 : decode cX12_lowOf 29 = .ok (.iload_n 3, 1) := by decide +kernel
theorem dX12_lowOf_30 : decode cX12_lowOf 30 = .ok (.iload_n 2, 1) := by decide +kernel
theorem dX12_lowOf_31 : decode cX12_lowOf 31 = .ok (.iadd, 1) := by decide +kernel
theorem dX12_lowOf_32 : decode cX12_lowOf 32 = .ok (.iconst 2, 1) := by decide +kernel
theorem dX12_lowOf_33 : decode cX12_lowOf 33 = .ok (.idiv, 1) := by decide +kernel
theorem dX12_lowOf_34 : decode cX12_lowOf 34 = .ok (.istore 4, 2) := by decide +kernel
theorem dX12_lowOf_36 : decode cX12_lowOf 36 = .ok (.aload_n 0, 1) := by decide +kernel
theorem dX12_lowOf_37 : decode cX12_lowOf 37 = .ok (.iload_n 1, 1) := by decide +kernel
theorem dX12_lowOf_38 : decode cX12_lowOf 38 = .ok (.iload 4, 2) := by decide +kernel
theorem dX12_lowOf_40 : decode cX12_lowOf 40 = .ok (.invokevirtual 239, 3) := by decide +kernel
theorem dX12_lowOf_43 : decode cX12_lowOf 43 = .ok (.ifCond .eq 9, 3) := by decide +kernel
theorem dX12_lowOf_46 : decode cX12_lowOf 46 = .ok (.iload 4, 2) := by decide +kernel
theorem dX12_lowOf_48 : decode cX12_lowOf 48 = .ok (.istore_n 3, 1) := by decide +kernel
theorem dX12_lowOf_49 : decode cX12_lowOf 49 = .ok (.goto 6, 3) := by decide +kernel
theorem dX12_lowOf_52 : decode cX12_lowOf 52 = .ok (.iload 4, 2) := by decide +kernel
theorem dX12_lowOf_54 : decode cX12_lowOf 54 = .ok (.istore_n 2, 1) := by decide +kernel
theorem dX12_lowOf_55 : decode cX12_lowOf 55 = .ok (.goto (-33), 3) := by decide +kernel
theorem dX12_lowOf_58 : decode cX12_lowOf 58 = .ok (.iload_n 3, 1) := by decide +kernel
theorem dX12_lowOf_59 : decode cX12_lowOf 59 = .ok (.ireturn, 1) := by decide +kernel
theorem dX12_isHigh_0 : decode cX12_isHigh 0 = .ok (.aload_n 0, 1) := by decide +kernel
theorem dX12_isHigh_1 : decode cX12_isHigh 1 = .ok (.iconst 0, 1) := by decide +kernel
theorem dX12_isHigh_2 : decode cX12_isHigh 2 = .ok (.iload_n 2, 1) := by decide +kernel
theorem dX12_isHigh_3 : decode cX12_isHigh 3 = .ok (.i2l, 1) := by decide +kernel
theorem dX12_isHigh_4 : decode cX12_isHigh 4 = .ok (.invokevirtual 214, 3) := by decide +kernel
theorem dX12_isHigh_7 : decode cX12_isHigh 7 = .ok (.aload_n 0, 1) := by decide +kernel
theorem dX12_isHigh_8 : decode cX12_isHigh 8 = .ok (.iconst 0, 1) := by decide +kernel
theorem dX12_isHigh_9 : decode cX12_isHigh 9 = .ok (.iload_n 1, 1) := by decide +kernel
theorem dX12_isHigh_10 : decode cX12_isHigh 10 = .ok (.iconst 1, 1) := by decide +kernel
theorem dX12_isHigh_11 : decode cX12_isHigh 11 = .ok (.iadd, 1) := by decide +kernel
theorem dX12_isHigh_12 : decode cX12_isHigh 12 = .ok (.invokevirtual 218, 3) := by decide +kernel
theorem dX12_isHigh_15 : decode cX12_isHigh 15 = .ok (.aload_n 0, 1) := by decide +kernel
theorem dX12_isHigh_16 : decode cX12_isHigh 16 = .ok (.iconst 0, 1) := by decide +kernel
theorem dX12_isHigh_17 : decode cX12_isHigh 17 = .ok (.sipush 270, 3) := by decide +kernel
theorem dX12_isHigh_20 : decode cX12_isHigh 20 = .ok (.invokevirtual 231, 3) := by decide +kernel
theorem dX12_isHigh_23 : decode cX12_isHigh 23 = .ok (.ifCond .lt 7, 3) := by decide +kernel
theorem dX12_isHigh_26 : decode cX12_isHigh 26 = .ok (.iconst 1, 1) := by decide +kernel
theorem dX12_isHigh_27 : decode cX12_isHigh 27 = .ok (.goto 4, 3) := by decide +kernel
theorem dX12_isHigh_30 : decode cX12_isHigh 30 = .ok (.iconst 0, 1) := by decide +kernel
theorem dX12_isHigh_31 : decode cX12_isHigh 31 = .ok (.ireturn, 1) := by decide +kernel
theorem dX12_highOf_0 : decode cX12_highOf 0 = .ok (.aload_n 0, 1) := by decide +kernel
theorem dX12_highOf_1 : decode cX12_highOf 1 = .ok (.iload_n 1, 1) := by decide +kernel
theorem dX12_highOf_2 : decode cX12_highOf 2 = .ok (.invokevirtual 243, 3) := by decide +kernel
theorem dX12_highOf_5 : decode cX12_highOf 5 = .ok (.iconst 1, 1) := by decide +kernel
theorem dX12_highOf_6 : decode cX12_highOf 6 = .ok (.istore_n 2, 1) := by decide +kernel
theorem dX12_highOf_7 : decode cX12_highOf 7 = .ok (.aload_n 0, 1) := by decide +kernel
theorem dX12_highOf_8 : decode cX12_highOf 8 = .ok (.iload_n 1, 1) := by decide +kernel
theorem dX12_highOf_9 : decode cX12_highOf 9 = .ok (.iload_n 2, 1) := by decide +kernel
theorem dX12_highOf_10 : decode cX12_highOf 10 = .ok (.invokevirtual 246, 3) := by decide +kernel
theorem dX12_highOf_13 : decode cX12_highOf 13 = .ok (.ifCond .ne 10, 3) := by decide +kernel
theorem dX12_highOf_16 : decode cX12_highOf 16 = .ok (.iload_n 2, 1) := by decide +kernel
theorem dX12_highOf_17 : decode cX12_highOf 17 = .ok (.iconst 2, 1) := by decide +kernel
theorem dX12_highOf_18 : decode cX12_highOf 18 = .ok (.imul, 1) := by decide +kernel
theorem dX12_highOf_19 : decode cX12_highOf 19 = .ok (.istore_n 2, 1) := by decide +kernel
theorem dX12_highOf_20 : decode cX12_highOf 20 = .ok (.goto (-13), 3) := by decide +kernel
theorem dX12_highOf_23 : decode cX12_highOf 23 = .ok (.iload_n 2, 1) := by decide +kernel
theorem dX12_highOf_24 : decode cX12_highOf 24 = .ok (.iconst 2, 1) := by decide +kernel
theorem dX12_highOf_25 : decode cX12_highOf 25 = .ok (.idiv, 1) := by decide +kernel
theorem dX12_highOf_26 : decode cX12_highOf 26 = .ok (.istore_n 3, 1) := by decide +kernel
theorem dX12_highOf_27 : decode cX12_highOf 27 = .ok (.iload_n 2, 1) := by decide +kernel
theorem dX12_highOf_28 : decode cX12_highOf 28 = .ok (.iload_n 3, 1) := by decide +kernel
theorem dX12_highOf_29 : decode cX12_highOf 29 = .ok (.isub, 1) := by decide +kernel
theorem dX12_highOf_30 : decode cX12_highOf 30 = .ok (.iconst 1, 1) := by decide +kernel
theorem dX12_highOf_31 : decode cX12_highOf 31 = .ok (.if_icmp .le 32, 3) := by decide +kernel
theorem dX12_highOf_34 : decode cX12_highOf 34 = .ok (.iload_n 3, 1) := by decide +kernel
theorem dX12_highOf_35 : decode cX12_highOf 35 = .ok (.iload_n 2, 1) := by decide +kernel
theorem dX12_highOf_36 : decode cX12_highOf 36 = .ok (.iadd, 1) := by decide +kernel
theorem dX12_highOf_37 : decode cX12_highOf 37 = .ok (.iconst 2, 1) := by decide +kernel
theorem dX12_highOf_38 : decode cX12_highOf 38 = .ok (.idiv, 1) := by decide +kernel
theorem dX12_highOf_39 : decode cX12_highOf 39 = .ok (.istore 4, 2) := by decide +kernel
theorem dX12_highOf_41 : decode cX12_highOf 41 = .ok (.aload_n 0, 1) := by decide +kernel
theorem dX12_highOf_42 : decode cX12_highOf 42 = .ok (.iload_n 1, 1) := by decide +kernel
theorem dX12_highOf_43 : decode cX12_highOf 43 = .ok (.iload 4, 2) := by decide +kernel
theorem dX12_highOf_45 : decode cX12_highOf 45 = .ok (.invokevirtual 246, 3) := by decide +kernel
theorem dX12_highOf_48 : decode cX12_highOf 48 = .ok (.ifCond .eq 9, 3) := by decide +kernel
theorem dX12_highOf_51 : decode cX12_highOf 51 = .ok (.iload 4, 2) := by decide +kernel
theorem dX12_highOf_53 : decode cX12_highOf 53 = .ok (.istore_n 2, 1) := by decide +kernel
theorem dX12_highOf_54 : decode cX12_highOf 54 = .ok (.goto 6, 3) := by decide +kernel
theorem dX12_highOf_57 : decode cX12_highOf 57 = .ok (.iload 4, 2) := by decide +kernel
theorem dX12_highOf_59 : decode cX12_highOf 59 = .ok (.istore_n 3, 1) := by decide +kernel
theorem dX12_highOf_60 : decode cX12_highOf 60 = .ok (.goto (-33), 3) := by decide +kernel
theorem dX12_highOf_63 : decode cX12_highOf 63 = .ok (.iload_n 2, 1) := by decide +kernel
theorem dX12_highOf_64 : decode cX12_highOf 64 = .ok (.ireturn, 1) := by decide +kernel
theorem dX12_comes_0 : decode cX12_comes 0 = .ok (.bipush 24, 2) := by decide +kernel
theorem dX12_comes_2 : decode cX12_comes 2 = .ok (.istore_n 2, 1) := by decide +kernel
theorem dX12_comes_3 : decode cX12_comes 3 = .ok (.iload_n 2, 1) := by decide +kernel
theorem dX12_comes_4 : decode cX12_comes 4 = .ok (.ifCond .lt 32, 3) := by decide +kernel
theorem dX12_comes_7 : decode cX12_comes 7 = .ok (.aload_n 0, 1) := by decide +kernel
theorem dX12_comes_8 : decode cX12_comes 8 = .ok (.getfield 60, 3) := by decide +kernel
theorem dX12_comes_11 : decode cX12_comes 11 = .ok (.aload_n 0, 1) := by decide +kernel
theorem dX12_comes_12 : decode cX12_comes 12 = .ok (.getfield 249, 3) := by decide +kernel
theorem dX12_comes_15 : decode cX12_comes 15 = .ok (.iload_n 1, 1) := by decide +kernel
theorem dX12_comes_16 : decode cX12_comes 16 = .ok (.iload_n 2, 1) := by decide +kernel
theorem dX12_comes_17 : decode cX12_comes 17 = .ok (.iushr, 1) := by decide +kernel
theorem dX12_comes_18 : decode cX12_comes 18 = .ok (.i2b, 1) := by decide +kernel
theorem dX12_comes_19 : decode cX12_comes 19 = .ok (.bastore, 1) := by decide +kernel
theorem dX12_comes_20 : decode cX12_comes 20 = .ok (.aload_n 0, 1) := by decide +kernel
theorem dX12_comes_21 : decode cX12_comes 21 = .ok (.dup, 1) := by decide +kernel
theorem dX12_comes_22 : decode cX12_comes 22 = .ok (.getfield 249, 3) := by decide +kernel
theorem dX12_comes_25 : decode cX12_comes 25 = .ok (.iconst 1, 1) := by decide +kernel
theorem dX12_comes_26 : decode cX12_comes 26 = .ok (.iadd, 1) := by decide +kernel
theorem dX12_comes_27 : decode cX12_comes 27 = .ok (.putfield 249, 3) := by decide +kernel
theorem dX12_comes_30 : decode cX12_comes 30 = .ok (.iinc 2 (-8), 3) := by decide +kernel
theorem dX12_comes_33 : decode cX12_comes 33 = .ok (.goto (-30), 3) := by decide +kernel
theorem dX12_comes_36 : decode cX12_comes 36 = .ok (.return_, 1) := by decide +kernel
theorem dX12_feed_0 : decode cX12_feed 0 = .ok (.aload_n 0, 1) := by decide +kernel
theorem dX12_feed_1 : decode cX12_feed 1 = .ok (.iconst 0, 1) := by decide +kernel
theorem dX12_feed_2 : decode cX12_feed 2 = .ok (.putfield 83, 3) := by decide +kernel
theorem dX12_feed_5 : decode cX12_feed 5 = .ok (.aload_n 0, 1) := by decide +kernel
theorem dX12_feed_6 : decode cX12_feed 6 = .ok (.getfield 249, 3) := by decide +kernel
theorem dX12_feed_9 : decode cX12_feed 9 = .ok (.sipush 380, 3) := by decide +kernel
theorem dX12_feed_12 : decode cX12_feed 12 = .ok (.if_icmp .le 5, 3) := by decide +kernel
theorem dX12_feed_15 : decode cX12_feed 15 = .ok (.iconst (-1), 1) := by decide +kernel
theorem dX12_feed_16 : decode cX12_feed 16 = .ok (.ireturn, 1) := by decide +kernel
theorem dX12_feed_17 : decode cX12_feed 17 = .ok (.aload_n 0, 1) := by decide +kernel
theorem dX12_feed_18 : decode cX12_feed 18 = .ok (.iload_n 1, 1) := by decide +kernel
theorem dX12_feed_19 : decode cX12_feed 19 = .ok (.invokevirtual 252, 3) := by decide +kernel
theorem dX12_feed_22 : decode cX12_feed 22 = .ok (.aload_n 0, 1) := by decide +kernel
theorem dX12_feed_23 : decode cX12_feed 23 = .ok (.iload_n 2, 1) := by decide +kernel
theorem dX12_feed_24 : decode cX12_feed 24 = .ok (.invokevirtual 252, 3) := by decide +kernel
theorem dX12_feed_27 : decode cX12_feed 27 = .ok (.aload_n 0, 1) := by decide +kernel
theorem dX12_feed_28 : decode cX12_feed 28 = .ok (.iload_n 3, 1) := by decide +kernel
theorem dX12_feed_29 : decode cX12_feed 29 = .ok (.invokevirtual 252, 3) := by decide +kernel
theorem dX12_feed_32 : decode cX12_feed 32 = .ok (.aload_n 0, 1) := by decide +kernel
theorem dX12_feed_33 : decode cX12_feed 33 = .ok (.iload 4, 2) := by decide +kernel
theorem dX12_feed_35 : decode cX12_feed 35 = .ok (.invokevirtual 252, 3) := by decide +kernel
theorem dX12_feed_38 : decode cX12_feed 38 = .ok (.aload_n 0, 1) := by decide +kernel
theorem dX12_feed_39 : decode cX12_feed 39 = .ok (.iload 5, 2) := by decide +kernel
theorem dX12_feed_41 : decode cX12_feed 41 = .ok (.invokevirtual 252, 3) := by decide +kernel
theorem dX12_feed_44 : decode cX12_feed 44 = .ok (.aload_n 0, 1) := by decide +kernel
theorem dX12_feed_45 : decode cX12_feed 45 = .ok (.getfield 249, 3) := by decide +kernel
theorem dX12_feed_48 : decode cX12_feed 48 = .ok (.ireturn, 1) := by decide +kernel
theorem dX12_end_0 : decode cX12_end 0 = .ok (.aload_n 0, 1) := by decide +kernel
theorem dX12_end_1 : decode cX12_end 1 = .ok (.iconst 0, 1) := by decide +kernel
theorem dX12_end_2 : decode cX12_end 2 = .ok (.putfield 83, 3) := by decide +kernel
theorem dX12_end_5 : decode cX12_end 5 = .ok (.iload_n 1, 1) := by decide +kernel
theorem dX12_end_6 : decode cX12_end 6 = .ok (.i2l, 1) := by decide +kernel
theorem dX12_end_7 : decode cX12_end 7 = .ok (.lconst 0, 1) := by decide +kernel
theorem dX12_end_8 : decode cX12_end 8 = .ok (.aload_n 0, 1) := by decide +kernel
theorem dX12_end_9 : decode cX12_end 9 = .ok (.getfield 249, 3) := by decide +kernel
theorem dX12_end_12 : decode cX12_end 12 = .ok (.i2l, 1) := by decide +kernel
theorem dX12_end_13 : decode cX12_end 13 = .ok (.invokestatic 103, 3) := by decide +kernel
theorem dX12_end_16 : decode cX12_end 16 = .ok (.ifCond .ne 5, 3) := by decide +kernel
theorem dX12_end_19 : decode cX12_end 19 = .ok (.iconst (-1), 1) := by decide +kernel
theorem dX12_end_20 : decode cX12_end 20 = .ok (.ireturn, 1) := by decide +kernel
theorem dX12_end_21 : decode cX12_end 21 = .ok (.aload_n 0, 1) := by decide +kernel
theorem dX12_end_22 : decode cX12_end 22 = .ok (.iload_n 1, 1) := by decide +kernel
theorem dX12_end_23 : decode cX12_end 23 = .ok (.putfield 249, 3) := by decide +kernel
theorem dX12_end_26 : decode cX12_end 26 = .ok (.iload_n 1, 1) := by decide +kernel
theorem dX12_end_27 : decode cX12_end 27 = .ok (.ireturn, 1) := by decide +kernel
theorem dX12_tape_0 : decode cX12_tape 0 = .ok (.aload_n 0, 1) := by decide +kernel
theorem dX12_tape_1 : decode cX12_tape 1 = .ok (.iconst 0, 1) := by decide +kernel
theorem dX12_tape_2 : decode cX12_tape 2 = .ok (.putfield 83, 3) := by decide +kernel
theorem dX12_tape_5 : decode cX12_tape 5 = .ok (.iload_n 1, 1) := by decide +kernel
theorem dX12_tape_6 : decode cX12_tape 6 = .ok (.i2l, 1) := by decide +kernel
theorem dX12_tape_7 : decode cX12_tape 7 = .ok (.lconst 0, 1) := by decide +kernel
theorem dX12_tape_8 : decode cX12_tape 8 = .ok (.aload_n 0, 1) := by decide +kernel
theorem dX12_tape_9 : decode cX12_tape 9 = .ok (.getfield 249, 3) := by decide +kernel
theorem dX12_tape_12 : decode cX12_tape 12 = .ok (.i2l, 1) := by decide +kernel
theorem dX12_tape_13 : decode cX12_tape 13 = .ok (.lconst 1, 1) := by decide +kernel
theorem dX12_tape_14 : decode cX12_tape 14 = .ok (.lsub, 1) := by decide +kernel
theorem dX12_tape_15 : decode cX12_tape 15 = .ok (.invokestatic 103, 3) := by decide +kernel
theorem dX12_tape_18 : decode cX12_tape 18 = .ok (.ifCond .eq 16, 3) := by decide +kernel
theorem dX12_tape_21 : decode cX12_tape 21 = .ok (.aload_n 0, 1) := by decide +kernel
theorem dX12_tape_22 : decode cX12_tape 22 = .ok (.getfield 60, 3) := by decide +kernel
theorem dX12_tape_25 : decode cX12_tape 25 = .ok (.iload_n 1, 1) := by decide +kernel
theorem dX12_tape_26 : decode cX12_tape 26 = .ok (.baload, 1) := by decide +kernel
theorem dX12_tape_27 : decode cX12_tape 27 = .ok (.sipush 255, 3) := by decide +kernel
theorem dX12_tape_30 : decode cX12_tape 30 = .ok (.iand, 1) := by decide +kernel
theorem dX12_tape_31 : decode cX12_tape 31 = .ok (.goto 4, 3) := by decide +kernel
theorem dX12_tape_34 : decode cX12_tape 34 = .ok (.iconst (-1), 1) := by decide +kernel
theorem dX12_tape_35 : decode cX12_tape 35 = .ok (.ireturn, 1) := by decide +kernel
theorem dX12_sign_0 : decode cX12_sign 0 = .ok (.aload_n 0, 1) := by decide +kernel
theorem dX12_sign_1 : decode cX12_sign 1 = .ok (.getfield 255, 3) := by decide +kernel
theorem dX12_sign_4 : decode cX12_sign 4 = .ok (.aload_n 0, 1) := by decide +kernel
theorem dX12_sign_5 : decode cX12_sign 5 = .ok (.getfield 249, 3) := by decide +kernel
theorem dX12_sign_8 : decode cX12_sign 8 = .ok (.if_icmp .ge 30, 3) := by decide +kernel
theorem dX12_sign_11 : decode cX12_sign 11 = .ok (.aload_n 0, 1) := by decide +kernel
theorem dX12_sign_12 : decode cX12_sign 12 = .ok (.getfield 60, 3) := by decide +kernel
theorem dX12_sign_15 : decode cX12_sign 15 = .ok (.aload_n 0, 1) := by decide +kernel
theorem dX12_sign_16 : decode cX12_sign 16 = .ok (.getfield 255, 3) := by decide +kernel
theorem dX12_sign_19 : decode cX12_sign 19 = .ok (.baload, 1) := by decide +kernel
theorem dX12_sign_20 : decode cX12_sign 20 = .ok (.bipush 32, 2) := by decide +kernel
theorem dX12_sign_22 : decode cX12_sign 22 = .ok (.if_icmp .ne 16, 3) := by decide +kernel
theorem dX12_sign_25 : decode cX12_sign 25 = .ok (.aload_n 0, 1) := by decide +kernel
theorem dX12_sign_26 : decode cX12_sign 26 = .ok (.dup, 1) := by decide +kernel
theorem dX12_sign_27 : decode cX12_sign 27 = .ok (.getfield 255, 3) := by decide +kernel
theorem dX12_sign_30 : decode cX12_sign 30 = .ok (.iconst 1, 1) := by decide +kernel
theorem dX12_sign_31 : decode cX12_sign 31 = .ok (.iadd, 1) := by decide +kernel
theorem dX12_sign_32 : decode cX12_sign 32 = .ok (.putfield 255, 3) := by decide +kernel
theorem dX12_sign_35 : decode cX12_sign 35 = .ok (.goto (-35), 3) := by decide +kernel
theorem dX12_sign_38 : decode cX12_sign 38 = .ok (.aload_n 0, 1) := by decide +kernel
theorem dX12_sign_39 : decode cX12_sign 39 = .ok (.getfield 255, 3) := by decide +kernel
theorem dX12_sign_42 : decode cX12_sign 42 = .ok (.aload_n 0, 1) := by decide +kernel
theorem dX12_sign_43 : decode cX12_sign 43 = .ok (.getfield 249, 3) := by decide +kernel
theorem dX12_sign_46 : decode cX12_sign 46 = .ok (.if_icmp .ge 15, 3) := by decide +kernel
theorem dX12_sign_49 : decode cX12_sign 49 = .ok (.aload_n 0, 1) := by decide +kernel
theorem dX12_sign_50 : decode cX12_sign 50 = .ok (.getfield 60, 3) := by decide +kernel
theorem dX12_sign_53 : decode cX12_sign 53 = .ok (.aload_n 0, 1) := by decide +kernel
theorem dX12_sign_54 : decode cX12_sign 54 = .ok (.getfield 255, 3) := by decide +kernel
theorem dX12_sign_57 : decode cX12_sign 57 = .ok (.baload, 1) := by decide +kernel
theorem dX12_sign_58 : decode cX12_sign 58 = .ok (.goto 4, 3) := by decide +kernel
theorem dX12_sign_61 : decode cX12_sign 61 = .ok (.iconst (-1), 1) := by decide +kernel
theorem dX12_sign_62 : decode cX12_sign 62 = .ok (.ireturn, 1) := by decide +kernel
theorem dX12_isDigit_0 : decode cX12_isDigit 0 = .ok (.iload_n 0, 1) := by decide +kernel
theorem dX12_isDigit_1 : decode cX12_isDigit 1 = .ok (.i2l, 1) := by decide +kernel
theorem dX12_isDigit_2 : decode cX12_isDigit 2 = .ok (.ldc2_w 258, 3) := by decide +kernel
theorem dX12_isDigit_5 : decode cX12_isDigit 5 = .ok (.ldc2_w 260, 3) := by decide +kernel
theorem dX12_isDigit_8 : decode cX12_isDigit 8 = .ok (.invokestatic 103, 3) := by decide +kernel
theorem dX12_isDigit_11 : decode cX12_isDigit 11 = .ok (.ireturn, 1) := by decide +kernel
theorem dX12_wrong_0 : decode cX12_wrong 0 = .ok (.aload_n 0, 1) := by decide +kernel
theorem dX12_wrong_1 : decode cX12_wrong 1 = .ok (.aload_n 0, 1) := by decide +kernel
theorem dX12_wrong_2 : decode cX12_wrong 2 = .ok (.getfield 262, 3) := by decide +kernel
theorem dX12_wrong_5 : decode cX12_wrong 5 = .ok (.ifCond .eq 7, 3) := by decide +kernel
theorem dX12_wrong_8 : decode cX12_wrong 8 = .ok (.iload_n 1, 1) := by decide +kernel
theorem dX12_wrong_9 : decode cX12_wrong 9 = .ok (.goto 7, 3) := by decide +kernel
theorem dX12_wrong_12 : decode cX12_wrong 12 = .ok (.aload_n 0, 1) := by decide +kernel
theorem dX12_wrong_13 : decode cX12_wrong 13 = .ok (.getfield 64, 3) := by decide +kernel
theorem dX12_wrong_16 : decode cX12_wrong 16 = .ok (.putfield 64, 3) := by decide +kernel
theorem dX12_wrong_19 : decode cX12_wrong 19 = .ok (.aload_n 0, 1) := by decide +kernel
theorem dX12_wrong_20 : decode cX12_wrong 20 = .ok (.iconst 0, 1) := by decide +kernel
theorem dX12_wrong_21 : decode cX12_wrong 21 = .ok (.putfield 262, 3) := by decide +kernel
theorem dX12_wrong_24 : decode cX12_wrong 24 = .ok (.iconst 0, 1) := by decide +kernel
theorem dX12_wrong_25 : decode cX12_wrong 25 = .ok (.ireturn, 1) := by decide +kernel
theorem dX12_number_0 : decode cX12_number 0 = .ok (.aload_n 0, 1) := by decide +kernel
theorem dX12_number_1 : decode cX12_number 1 = .ok (.invokevirtual 265, 3) := by decide +kernel
theorem dX12_number_4 : decode cX12_number 4 = .ok (.invokestatic 268, 3) := by decide +kernel
theorem dX12_number_7 : decode cX12_number 7 = .ok (.ifCond .ne 12, 3) := by decide +kernel
theorem dX12_number_10 : decode cX12_number 10 = .ok (.aload_n 0, 1) := by decide +kernel
theorem dX12_number_11 : decode cX12_number 11 = .ok (.aload_n 0, 1) := by decide +kernel
theorem dX12_number_12 : decode cX12_number 12 = .ok (.getfield 255, 3) := by decide +kernel
theorem dX12_number_15 : decode cX12_number 15 = .ok (.invokevirtual 271, 3) := by decide +kernel
theorem dX12_number_18 : decode cX12_number 18 = .ok (.ireturn, 1) := by decide +kernel
theorem dX12_number_19 : decode cX12_number 19 = .ok (.aload_n 0, 1) := by decide +kernel
theorem dX12_number_20 : decode cX12_number 20 = .ok (.getfield 255, 3) := by decide +kernel
theorem dX12_number_23 : decode cX12_number 23 = .ok (.istore_n 2, 1) := by decide +kernel
theorem dX12_number_24 : decode cX12_number 24 = .ok (.iconst 0, 1) := by decide +kernel
theorem dX12_number_25 : decode cX12_number 25 = .ok (.istore_n 3, 1) := by decide +kernel
theorem dX12_number_26 : decode cX12_number 26 = .ok (.aload_n 0, 1) := by decide +kernel
theorem dX12_number_27 : decode cX12_number 27 = .ok (.getfield 255, 3) := by decide +kernel
theorem dX12_number_30 : decode cX12_number 30 = .ok (.aload_n 0, 1) := by decide +kernel
theorem dX12_number_31 : decode cX12_number 31 = .ok (.getfield 249, 3) := by decide +kernel
theorem dX12_number_34 : decode cX12_number 34 = .ok (.if_icmp .ge 58, 3) := by decide +kernel
theorem dX12_number_37 : decode cX12_number 37 = .ok (.aload_n 0, 1) := by decide +kernel
theorem dX12_number_38 : decode cX12_number 38 = .ok (.getfield 60, 3) := by decide +kernel
theorem dX12_number_41 : decode cX12_number 41 = .ok (.aload_n 0, 1) := by decide +kernel
theorem dX12_number_42 : decode cX12_number 42 = .ok (.getfield 255, 3) := by decide +kernel
theorem dX12_number_45 : decode cX12_number 45 = .ok (.baload, 1) := by decide +kernel
theorem dX12_number_46 : decode cX12_number 46 = .ok (.invokestatic 268, 3) := by decide +kernel
theorem dX12_number_49 : decode cX12_number 49 = .ok (.ifCond .eq 43, 3) := by decide +kernel
theorem dX12_number_52 : decode cX12_number 52 = .ok (.iload_n 3, 1) := by decide +kernel
theorem dX12_number_53 : decode cX12_number 53 = .ok (.iload_n 1, 1) := by decide +kernel
theorem dX12_number_54 : decode cX12_number 54 = .ok (.if_icmp .le 7, 3) := by decide +kernel
theorem dX12_number_57 : decode cX12_number 57 = .ok (.iload_n 3, 1) := by decide +kernel
theorem dX12_number_58 : decode cX12_number 58 = .ok (.goto 20, 3) := by decide +kernel
theorem dX12_number_61 : decode cX12_number 61 = .ok (.bipush 10, 2) := by decide +kernel
theorem dX12_number_63 : decode cX12_number 63 = .ok (.iload_n 3, 1) := by decide +kernel
theorem dX12_number_64 : decode cX12_number 64 = .ok (.imul, 1) := by decide +kernel
theorem dX12_number_65 : decode cX12_number 65 = .ok (.aload_n 0, 1) := by decide +kernel
theorem dX12_number_66 : decode cX12_number 66 = .ok (.getfield 60, 3) := by decide +kernel
theorem dX12_number_69 : decode cX12_number 69 = .ok (.aload_n 0, 1) := by decide +kernel
theorem dX12_number_70 : decode cX12_number 70 = .ok (.getfield 255, 3) := by decide +kernel
theorem dX12_number_73 : decode cX12_number 73 = .ok (.baload, 1) := by decide +kernel
theorem dX12_number_74 : decode cX12_number 74 = .ok (.iadd, 1) := by decide +kernel
theorem dX12_number_75 : decode cX12_number 75 = .ok (.bipush 48, 2) := by decide +kernel
theorem dX12_number_77 : decode cX12_number 77 = .ok (.isub, 1) := by decide +kernel
theorem dX12_number_78 : decode cX12_number 78 = .ok (.istore_n 3, 1) := by decide +kernel
theorem dX12_number_79 : decode cX12_number 79 = .ok (.aload_n 0, 1) := by decide +kernel
theorem dX12_number_80 : decode cX12_number 80 = .ok (.dup, 1) := by decide +kernel
theorem dX12_number_81 : decode cX12_number 81 = .ok (.getfield 255, 3) := by decide +kernel
theorem dX12_number_84 : decode cX12_number 84 = .ok (.iconst 1, 1) := by decide +kernel
theorem dX12_number_85 : decode cX12_number 85 = .ok (.iadd, 1) := by decide +kernel
theorem dX12_number_86 : decode cX12_number 86 = .ok (.putfield 255, 3) := by decide +kernel
theorem dX12_number_89 : decode cX12_number 89 = .ok (.goto (-63), 3) := by decide +kernel
theorem dX12_number_92 : decode cX12_number 92 = .ok (.iload_n 3, 1) := by decide +kernel
theorem dX12_number_93 : decode cX12_number 93 = .ok (.iload_n 1, 1) := by decide +kernel
theorem dX12_number_94 : decode cX12_number 94 = .ok (.if_icmp .le 11, 3) := by decide +kernel
theorem dX12_number_97 : decode cX12_number 97 = .ok (.aload_n 0, 1) := by decide +kernel
theorem dX12_number_98 : decode cX12_number 98 = .ok (.iload_n 2, 1) := by decide +kernel
theorem dX12_number_99 : decode cX12_number 99 = .ok (.invokevirtual 271, 3) := by decide +kernel
theorem dX12_number_102 : decode cX12_number 102 = .ok (.goto 4, 3) := by decide +kernel
theorem dX12_number_105 : decode cX12_number 105 = .ok (.iload_n 3, 1) := by decide +kernel
theorem dX12_number_106 : decode cX12_number 106 = .ok (.ireturn, 1) := by decide +kernel
theorem dX12_term_0 : decode cX12_term 0 = .ok (.iconst 1, 1) := by decide +kernel
theorem dX12_term_1 : decode cX12_term 1 = .ok (.istore_n 2, 1) := by decide +kernel
theorem dX12_term_2 : decode cX12_term 2 = .ok (.aload_n 0, 1) := by decide +kernel
theorem dX12_term_3 : decode cX12_term 3 = .ok (.invokevirtual 265, 3) := by decide +kernel
theorem dX12_term_6 : decode cX12_term 6 = .ok (.invokestatic 268, 3) := by decide +kernel
theorem dX12_term_9 : decode cX12_term 9 = .ok (.istore_n 3, 1) := by decide +kernel
theorem dX12_term_10 : decode cX12_term 10 = .ok (.iload_n 3, 1) := by decide +kernel
theorem dX12_term_11 : decode cX12_term 11 = .ok (.ifCond .eq 11, 3) := by decide +kernel
theorem dX12_term_14 : decode cX12_term 14 = .ok (.aload_n 0, 1) := by decide +kernel
theorem dX12_term_15 : decode cX12_term 15 = .ok (.sipush 9999, 3) := by decide +kernel
theorem dX12_term_18 : decode cX12_term 18 = .ok (.invokevirtual 274, 3) := by decide +kernel
theorem dX12_term_21 : decode cX12_term 21 = .ok (.istore_n 2, 1) := by decide +kernel
theorem dX12_term_22 : decode cX12_term 22 = .ok (.iconst 0, 1) := by decide +kernel
theorem dX12_term_23 : decode cX12_term 23 = .ok (.istore 4, 2) := by decide +kernel
theorem dX12_term_25 : decode cX12_term 25 = .ok (.aload_n 0, 1) := by decide +kernel
theorem dX12_term_26 : decode cX12_term 26 = .ok (.getfield 262, 3) := by decide +kernel
theorem dX12_term_29 : decode cX12_term 29 = .ok (.ifCond .eq 55, 3) := by decide +kernel
theorem dX12_term_32 : decode cX12_term 32 = .ok (.aload_n 0, 1) := by decide +kernel
theorem dX12_term_33 : decode cX12_term 33 = .ok (.invokevirtual 265, 3) := by decide +kernel
theorem dX12_term_36 : decode cX12_term 36 = .ok (.bipush 120, 2) := by decide +kernel
theorem dX12_term_38 : decode cX12_term 38 = .ok (.if_icmp .ne 46, 3) := by decide +kernel
theorem dX12_term_41 : decode cX12_term 41 = .ok (.aload_n 0, 1) := by decide +kernel
theorem dX12_term_42 : decode cX12_term 42 = .ok (.dup, 1) := by decide +kernel
theorem dX12_term_43 : decode cX12_term 43 = .ok (.getfield 255, 3) := by decide +kernel
theorem dX12_term_46 : decode cX12_term 46 = .ok (.iconst 1, 1) := by decide +kernel
theorem dX12_term_47 : decode cX12_term 47 = .ok (.iadd, 1) := by decide +kernel
theorem dX12_term_48 : decode cX12_term 48 = .ok (.putfield 255, 3) := by decide +kernel
theorem dX12_term_51 : decode cX12_term 51 = .ok (.iconst 1, 1) := by decide +kernel
theorem dX12_term_52 : decode cX12_term 52 = .ok (.istore 4, 2) := by decide +kernel
theorem dX12_term_54 : decode cX12_term 54 = .ok (.aload_n 0, 1) := by decide +kernel
theorem dX12_term_55 : decode cX12_term 55 = .ok (.invokevirtual 265, 3) := by decide +kernel
theorem dX12_term_58 : decode cX12_term 58 = .ok (.bipush 94, 2) := by decide +kernel
theorem dX12_term_60 : decode cX12_term 60 = .ok (.if_icmp .ne 44, 3) := by decide +kernel
theorem dX12_term_63 : decode cX12_term 63 = .ok (.aload_n 0, 1) := by decide +kernel
theorem dX12_term_64 : decode cX12_term 64 = .ok (.dup, 1) := by decide +kernel
theorem dX12_term_65 : decode cX12_term 65 = .ok (.getfield 255, 3) := by decide +kernel
theorem dX12_term_68 : decode cX12_term 68 = .ok (.iconst 1, 1) := by decide +kernel
theorem dX12_term_69 : decode cX12_term 69 = .ok (.iadd, 1) := by decide +kernel
theorem dX12_term_70 : decode cX12_term 70 = .ok (.putfield 255, 3) := by decide +kernel
theorem dX12_term_73 : decode cX12_term 73 = .ok (.aload_n 0, 1) := by decide +kernel
theorem dX12_term_74 : decode cX12_term 74 = .ok (.bipush 12, 2) := by decide +kernel
theorem dX12_term_76 : decode cX12_term 76 = .ok (.invokevirtual 274, 3) := by decide +kernel
theorem dX12_term_79 : decode cX12_term 79 = .ok (.istore 4, 2) := by decide +kernel
theorem dX12_term_81 : decode cX12_term 81 = .ok (.goto 23, 3) := by decide +kernel
theorem dX12_term_84 : decode cX12_term 84 = .ok (.aload_n 0, 1) := by decide +kernel
theorem dX12_term_85 : decode cX12_term 85 = .ok (.getfield 262, 3) := by decide +kernel
theorem dX12_term_88 : decode cX12_term 88 = .ok (.ifCond .eq 16, 3) := by decide +kernel
theorem dX12_term_91 : decode cX12_term 91 = .ok (.iload_n 3, 1) := by decide +kernel
theorem dX12_term_92 : decode cX12_term 92 = .ok (.ifCond .ne 12, 3) := by decide +kernel
theorem dX12_term_95 : decode cX12_term 95 = .ok (.aload_n 0, 1) := by decide +kernel
theorem dX12_term_96 : decode cX12_term 96 = .ok (.aload_n 0, 1) := by decide +kernel
theorem dX12_term_97 : decode cX12_term 97 = .ok (.getfield 255, 3) := by decide +kernel
theorem dX12_term_100 : decode cX12_term 100 = .ok (.invokevirtual 271, 3) := by decide +kernel
theorem dX12_term_103 : decode cX12_term 103 = .ok (.pop, 1) := by decide +kernel
theorem dX12_term_104 : decode cX12_term 104 = .ok (.aload_n 0, 1) := by decide +kernel
theorem dX12_term_105 : decode cX12_term 105 = .ok (.getfield 262, 3) := by decide +kernel
theorem dX12_term_108 : decode cX12_term 108 = .ok (.ifCond .eq 17, 3) := by decide +kernel
theorem dX12_term_111 : decode cX12_term 111 = .ok (.aload_n 0, 1) := by decide +kernel
theorem dX12_term_112 : decode cX12_term 112 = .ok (.getfield 29, 3) := by decide +kernel
theorem dX12_term_115 : decode cX12_term 115 = .ok (.iload 4, 2) := by decide +kernel
theorem dX12_term_117 : decode cX12_term 117 = .ok (.dup2, 1) := by decide +kernel
theorem dX12_term_118 : decode cX12_term 118 = .ok (.laload, 1) := by decide +kernel
theorem dX12_term_119 : decode cX12_term 119 = .ok (.iload_n 1, 1) := by decide +kernel
theorem dX12_term_120 : decode cX12_term 120 = .ok (.iload_n 2, 1) := by decide +kernel
theorem dX12_term_121 : decode cX12_term 121 = .ok (.imul, 1) := by decide +kernel
theorem dX12_term_122 : decode cX12_term 122 = .ok (.i2l, 1) := by decide +kernel
theorem dX12_term_123 : decode cX12_term 123 = .ok (.ladd, 1) := by decide +kernel
theorem dX12_term_124 : decode cX12_term 124 = .ok (.lastore, 1) := by decide +kernel
theorem dX12_term_125 : decode cX12_term 125 = .ok (.return_, 1) := by decide +kernel
theorem dX12_isSign_0 : decode cX12_isSign 0 = .ok (.iload_n 0, 1) := by decide +kernel
theorem dX12_isSign_1 : decode cX12_isSign 1 = .ok (.bipush 43, 2) := by decide +kernel
theorem dX12_isSign_3 : decode cX12_isSign 3 = .ok (.if_icmp .eq 9, 3) := by decide +kernel
theorem dX12_isSign_6 : decode cX12_isSign 6 = .ok (.iload_n 0, 1) := by decide +kernel
theorem dX12_isSign_7 : decode cX12_isSign 7 = .ok (.bipush 45, 2) := by decide +kernel
theorem dX12_isSign_9 : decode cX12_isSign 9 = .ok (.if_icmp .ne 7, 3) := by decide +kernel
theorem dX12_isSign_12 : decode cX12_isSign 12 = .ok (.iconst 1, 1) := by decide +kernel
theorem dX12_isSign_13 : decode cX12_isSign 13 = .ok (.goto 4, 3) := by decide +kernel
theorem dX12_isSign_16 : decode cX12_isSign 16 = .ok (.iconst 0, 1) := by decide +kernel
theorem dX12_isSign_17 : decode cX12_isSign 17 = .ok (.ireturn, 1) := by decide +kernel
theorem dX12_read_0 : decode cX12_read 0 = .ok (.aload_n 0, 1) := by decide +kernel
theorem dX12_read_1 : decode cX12_read 1 = .ok (.iconst 0, 1) := by decide +kernel
theorem dX12_read_2 : decode cX12_read 2 = .ok (.putfield 83, 3) := by decide +kernel
theorem dX12_read_5 : decode cX12_read 5 = .ok (.iload_n 1, 1) := by decide +kernel
theorem dX12_read_6 : decode cX12_read 6 = .ok (.invokestatic 277, 3) := by decide +kernel
theorem dX12_read_9 : decode cX12_read 9 = .ok (.ifCond .ne 10, 3) := by decide +kernel
theorem dX12_read_12 : decode cX12_read 12 = .ok (.aload_n 0, 1) := by decide +kernel
theorem dX12_read_13 : decode cX12_read 13 = .ok (.bipush (-2), 2) := by decide +kernel
theorem dX12_read_15 : decode cX12_read 15 = .ok (.invokevirtual 96, 3) := by decide +kernel
theorem dX12_read_18 : decode cX12_read 18 = .ok (.ireturn, 1) := by decide +kernel
theorem dX12_read_19 : decode cX12_read 19 = .ok (.aload_n 0, 1) := by decide +kernel
theorem dX12_read_20 : decode cX12_read 20 = .ok (.iconst (-1), 1) := by decide +kernel
theorem dX12_read_21 : decode cX12_read 21 = .ok (.putfield 64, 3) := by decide +kernel
theorem dX12_read_24 : decode cX12_read 24 = .ok (.aload_n 0, 1) := by decide +kernel
theorem dX12_read_25 : decode cX12_read 25 = .ok (.iconst 0, 1) := by decide +kernel
theorem dX12_read_26 : decode cX12_read 26 = .ok (.putfield 255, 3) := by decide +kernel
theorem dX12_read_29 : decode cX12_read 29 = .ok (.aload_n 0, 1) := by decide +kernel
theorem dX12_read_30 : decode cX12_read 30 = .ok (.iconst 1, 1) := by decide +kernel
theorem dX12_read_31 : decode cX12_read 31 = .ok (.putfield 262, 3) := by decide +kernel
theorem dX12_read_34 : decode cX12_read 34 = .ok (.aload_n 0, 1) := by decide +kernel
theorem dX12_read_35 : decode cX12_read 35 = .ok (.invokevirtual 116, 3) := by decide +kernel
theorem dX12_read_38 : decode cX12_read 38 = .ok (.aload_n 0, 1) := by decide +kernel
theorem dX12_read_39 : decode cX12_read 39 = .ok (.invokevirtual 265, 3) := by decide +kernel
theorem dX12_read_42 : decode cX12_read 42 = .ok (.istore_n 2, 1) := by decide +kernel
theorem dX12_read_43 : decode cX12_read 43 = .ok (.iconst 1, 1) := by decide +kernel
theorem dX12_read_44 : decode cX12_read 44 = .ok (.istore_n 3, 1) := by decide +kernel
theorem dX12_read_45 : decode cX12_read 45 = .ok (.iload_n 3, 1) := by decide +kernel
theorem dX12_read_46 : decode cX12_read 46 = .ok (.ifCond .eq 55, 3) := by decide +kernel
theorem dX12_read_49 : decode cX12_read 49 = .ok (.aload_n 0, 1) := by decide +kernel
theorem dX12_read_50 : decode cX12_read 50 = .ok (.getfield 262, 3) := by decide +kernel
theorem dX12_read_53 : decode cX12_read 53 = .ok (.ifCond .eq 48, 3) := by decide +kernel
theorem dX12_read_56 : decode cX12_read 56 = .ok (.iload_n 2, 1) := by decide +kernel
theorem dX12_read_57 : decode cX12_read 57 = .ok (.invokestatic 280, 3) := by decide +kernel
theorem dX12_read_60 : decode cX12_read 60 = .ok (.ifCond .eq 13, 3) := by decide +kernel
theorem dX12_read_63 : decode cX12_read 63 = .ok (.aload_n 0, 1) := by decide +kernel
theorem dX12_read_64 : decode cX12_read 64 = .ok (.dup, 1) := by decide +kernel
theorem dX12_read_65 : decode cX12_read 65 = .ok (.getfield 255, 3) := by decide +kernel
theorem dX12_read_68 : decode cX12_read 68 = .ok (.iconst 1, 1) := by decide +kernel
theorem dX12_read_69 : decode cX12_read 69 = .ok (.iadd, 1) := by decide +kernel
theorem dX12_read_70 : decode cX12_read 70 = .ok (.putfield 255, 3) := by decide +kernel
theorem dX12_read_73 : decode cX12_read 73 = .ok (.aload_n 0, 1) := by decide +kernel
theorem dX12_read_74 : decode cX12_read 74 = .ok (.iload_n 2, 1) := by decide +kernel
theorem dX12_read_75 : decode cX12_read 75 = .ok (.bipush 45, 2) := by decide +kernel
theorem dX12_read_77 : decode cX12_read 77 = .ok (.if_icmp .ne 7, 3) := by decide +kernel
theorem dX12_read_80 : decode cX12_read 80 = .ok (.iconst (-1), 1) := by decide +kernel
theorem dX12_read_81 : decode cX12_read 81 = .ok (.goto 4, 3) := by decide +kernel
theorem dX12_read_84 : decode cX12_read 84 = .ok (.iconst 1, 1) := by decide +kernel
theorem dX12_read_85 : decode cX12_read 85 = .ok (.invokevirtual 283, 3) := by decide +kernel
theorem dX12_read_88 : decode cX12_read 88 = .ok (.aload_n 0, 1) := by decide +kernel
theorem dX12_read_89 : decode cX12_read 89 = .ok (.invokevirtual 265, 3) := by decide +kernel
theorem dX12_read_92 : decode cX12_read 92 = .ok (.istore_n 2, 1) := by decide +kernel
theorem dX12_read_93 : decode cX12_read 93 = .ok (.iload_n 2, 1) := by decide +kernel
theorem dX12_read_94 : decode cX12_read 94 = .ok (.invokestatic 280, 3) := by decide +kernel
theorem dX12_read_97 : decode cX12_read 97 = .ok (.istore_n 3, 1) := by decide +kernel
theorem dX12_read_98 : decode cX12_read 98 = .ok (.goto (-53), 3) := by decide +kernel
theorem dX12_read_101 : decode cX12_read 101 = .ok (.aload_n 0, 1) := by decide +kernel
theorem dX12_read_102 : decode cX12_read 102 = .ok (.getfield 262, 3) := by decide +kernel
theorem dX12_read_105 : decode cX12_read 105 = .ok (.ifCond .eq 8, 3) := by decide +kernel
theorem dX12_read_108 : decode cX12_read 108 = .ok (.iload_n 2, 1) := by decide +kernel
theorem dX12_read_109 : decode cX12_read 109 = .ok (.iconst (-1), 1) := by decide +kernel
theorem dX12_read_110 : decode cX12_read 110 = .ok (.if_icmp .ne 21, 3) := by decide +kernel
theorem dX12_read_113 : decode cX12_read 113 = .ok (.aload_n 0, 1) := by decide +kernel
theorem dX12_read_114 : decode cX12_read 114 = .ok (.getfield 262, 3) := by decide +kernel
theorem dX12_read_117 : decode cX12_read 117 = .ok (.ifCond .eq 23, 3) := by decide +kernel
theorem dX12_read_120 : decode cX12_read 120 = .ok (.aload_n 0, 1) := by decide +kernel
theorem dX12_read_121 : decode cX12_read 121 = .ok (.getfield 255, 3) := by decide +kernel
theorem dX12_read_124 : decode cX12_read 124 = .ok (.aload_n 0, 1) := by decide +kernel
theorem dX12_read_125 : decode cX12_read 125 = .ok (.getfield 249, 3) := by decide +kernel
theorem dX12_read_128 : decode cX12_read 128 = .ok (.if_icmp .ge 12, 3) := by decide +kernel
theorem dX12_read_131 : decode cX12_read 131 = .ok (.aload_n 0, 1) := by decide +kernel
theorem dX12_read_132 : decode cX12_read 132 = .ok (.aload_n 0, 1) := by decide +kernel
theorem dX12_read_133 : decode cX12_read 133 = .ok (.getfield 255, 3) := by decide +kernel
theorem dX12_read_136 : decode cX12_read 136 = .ok (.invokevirtual 271, 3) := by decide +kernel
theorem dX12_read_139 : decode cX12_read 139 = .ok (.pop, 1) := by decide +kernel
theorem dX12_read_140 : decode cX12_read 140 = .ok (.aload_n 0, 1) := by decide +kernel
theorem dX12_read_141 : decode cX12_read 141 = .ok (.iconst 0, 1) := by decide +kernel
theorem dX12_read_142 : decode cX12_read 142 = .ok (.putfield 249, 3) := by decide +kernel
theorem dX12_read_145 : decode cX12_read 145 = .ok (.aload_n 0, 1) := by decide +kernel
theorem dX12_read_146 : decode cX12_read 146 = .ok (.invokevirtual 132, 3) := by decide +kernel
theorem dX12_read_149 : decode cX12_read 149 = .ok (.aload_n 0, 1) := by decide +kernel
theorem dX12_read_150 : decode cX12_read 150 = .ok (.getfield 262, 3) := by decide +kernel
theorem dX12_read_153 : decode cX12_read 153 = .ok (.ifCond .eq 21, 3) := by decide +kernel
theorem dX12_read_156 : decode cX12_read 156 = .ok (.aload_n 0, 1) := by decide +kernel
theorem dX12_read_157 : decode cX12_read 157 = .ok (.invokevirtual 135, 3) := by decide +kernel
theorem dX12_read_160 : decode cX12_read 160 = .ok (.ifCond .ne 14, 3) := by decide +kernel
theorem dX12_read_163 : decode cX12_read 163 = .ok (.aload_n 0, 1) := by decide +kernel
theorem dX12_read_164 : decode cX12_read 164 = .ok (.bipush (-2), 2) := by decide +kernel
theorem dX12_read_166 : decode cX12_read 166 = .ok (.putfield 64, 3) := by decide +kernel
theorem dX12_read_169 : decode cX12_read 169 = .ok (.aload_n 0, 1) := by decide +kernel
theorem dX12_read_170 : decode cX12_read 170 = .ok (.iconst 0, 1) := by decide +kernel
theorem dX12_read_171 : decode cX12_read 171 = .ok (.putfield 262, 3) := by decide +kernel
theorem dX12_read_174 : decode cX12_read 174 = .ok (.aload_n 0, 1) := by decide +kernel
theorem dX12_read_175 : decode cX12_read 175 = .ok (.getfield 262, 3) := by decide +kernel
theorem dX12_read_178 : decode cX12_read 178 = .ok (.ifCond .eq 12, 3) := by decide +kernel
theorem dX12_read_181 : decode cX12_read 181 = .ok (.aload_n 0, 1) := by decide +kernel
theorem dX12_read_182 : decode cX12_read 182 = .ok (.iload_n 1, 1) := by decide +kernel
theorem dX12_read_183 : decode cX12_read 183 = .ok (.iconst 0, 1) := by decide +kernel
theorem dX12_read_184 : decode cX12_read 184 = .ok (.invokevirtual 286, 3) := by decide +kernel
theorem dX12_read_187 : decode cX12_read 187 = .ok (.goto 9, 3) := by decide +kernel
theorem dX12_read_190 : decode cX12_read 190 = .ok (.aload_n 0, 1) := by decide +kernel
theorem dX12_read_191 : decode cX12_read 191 = .ok (.bipush (-6), 2) := by decide +kernel
theorem dX12_read_193 : decode cX12_read 193 = .ok (.invokevirtual 96, 3) := by decide +kernel
theorem dX12_read_196 : decode cX12_read 196 = .ok (.ireturn, 1) := by decide +kernel
theorem dX12_fault_0 : decode cX12_fault 0 = .ok (.aload_n 0, 1) := by decide +kernel
theorem dX12_fault_1 : decode cX12_fault 1 = .ok (.iconst 0, 1) := by decide +kernel
theorem dX12_fault_2 : decode cX12_fault 2 = .ok (.putfield 83, 3) := by decide +kernel
theorem dX12_fault_5 : decode cX12_fault 5 = .ok (.aload_n 0, 1) := by decide +kernel
theorem dX12_fault_6 : decode cX12_fault 6 = .ok (.getfield 64, 3) := by decide +kernel
theorem dX12_fault_9 : decode cX12_fault 9 = .ok (.ireturn, 1) := by decide +kernel
theorem dX12_write_0 : decode cX12_write 0 = .ok (.aload_n 0, 1) := by decide +kernel
theorem dX12_write_1 : decode cX12_write 1 = .ok (.getfield 60, 3) := by decide +kernel
theorem dX12_write_4 : decode cX12_write 4 = .ok (.aload_n 0, 1) := by decide +kernel
theorem dX12_write_5 : decode cX12_write 5 = .ok (.getfield 249, 3) := by decide +kernel
theorem dX12_write_8 : decode cX12_write 8 = .ok (.iload_n 1, 1) := by decide +kernel
theorem dX12_write_9 : decode cX12_write 9 = .ok (.i2b, 1) := by decide +kernel
theorem dX12_write_10 : decode cX12_write 10 = .ok (.bastore, 1) := by decide +kernel
theorem dX12_write_11 : decode cX12_write 11 = .ok (.aload_n 0, 1) := by decide +kernel
theorem dX12_write_12 : decode cX12_write 12 = .ok (.dup, 1) := by decide +kernel
theorem dX12_write_13 : decode cX12_write 13 = .ok (.getfield 249, 3) := by decide +kernel
theorem dX12_write_16 : decode cX12_write 16 = .ok (.iconst 1, 1) := by decide +kernel
theorem dX12_write_17 : decode cX12_write 17 = .ok (.iadd, 1) := by decide +kernel
theorem dX12_write_18 : decode cX12_write 18 = .ok (.putfield 249, 3) := by decide +kernel
theorem dX12_write_21 : decode cX12_write 21 = .ok (.return_, 1) := by decide +kernel
theorem dX12_writeNumber_0 : decode cX12_writeNumber 0 = .ok (.iconst 1, 1) := by decide +kernel
theorem dX12_writeNumber_1 : decode cX12_writeNumber 1 = .ok (.istore_n 2, 1) := by decide +kernel
theorem dX12_writeNumber_2 : decode cX12_writeNumber 2 = .ok (.iload_n 1, 1) := by decide +kernel
theorem dX12_writeNumber_3 : decode cX12_writeNumber 3 = .ok (.iload_n 2, 1) := by decide +kernel
theorem dX12_writeNumber_4 : decode cX12_writeNumber 4 = .ok (.idiv, 1) := by decide +kernel
theorem dX12_writeNumber_5 : decode cX12_writeNumber 5 = .ok (.bipush 10, 2) := by decide +kernel
theorem dX12_writeNumber_7 : decode cX12_writeNumber 7 = .ok (.if_icmp .lt 11, 3) := by decide +kernel
theorem dX12_writeNumber_10 : decode cX12_writeNumber 10 = .ok (.iload_n 2, 1) := by decide +kernel
theorem dX12_writeNumber_11 : decode cX12_writeNumber 11 = .ok (.bipush 10, 2) := by decide +kernel
theorem dX12_writeNumber_13 : decode cX12_writeNumber 13 = .ok (.imul, 1) := by decide +kernel
theorem dX12_writeNumber_14 : decode cX12_writeNumber 14 = .ok (.istore_n 2, 1) := by decide +kernel
theorem dX12_writeNumber_15 : decode cX12_writeNumber 15 = .ok (.goto (-13), 3) := by decide +kernel
theorem dX12_writeNumber_18 : decode cX12_writeNumber 18 = .ok (.iload_n 2, 1) := by decide +kernel
theorem dX12_writeNumber_19 : decode cX12_writeNumber 19 = .ok (.istore_n 3, 1) := by decide +kernel
theorem dX12_writeNumber_20 : decode cX12_writeNumber 20 = .ok (.iload_n 3, 1) := by decide +kernel
theorem dX12_writeNumber_21 : decode cX12_writeNumber 21 = .ok (.ifCond .le 24, 3) := by decide +kernel
theorem dX12_writeNumber_24 : decode cX12_writeNumber 24 = .ok (.aload_n 0, 1) := by decide +kernel
theorem dX12_writeNumber_25 : decode cX12_writeNumber 25 = .ok (.bipush 48, 2) := by decide +kernel
theorem dX12_writeNumber_27 : decode cX12_writeNumber 27 = .ok (.iload_n 1, 1) := by decide +kernel
theorem dX12_writeNumber_28 : decode cX12_writeNumber 28 = .ok (.iload_n 3, 1) := by decide +kernel
theorem dX12_writeNumber_29 : decode cX12_writeNumber 29 = .ok (.idiv, 1) := by decide +kernel
theorem dX12_writeNumber_30 : decode cX12_writeNumber 30 = .ok (.bipush 10, 2) := by decide +kernel
theorem dX12_writeNumber_32 : decode cX12_writeNumber 32 = .ok (.irem, 1) := by decide +kernel
theorem dX12_writeNumber_33 : decode cX12_writeNumber 33 = .ok (.iadd, 1) := by decide +kernel
theorem dX12_writeNumber_34 : decode cX12_writeNumber 34 = .ok (.invokevirtual 289, 3) := by decide +kernel
theorem dX12_writeNumber_37 : decode cX12_writeNumber 37 = .ok (.iload_n 3, 1) := by decide +kernel
theorem dX12_writeNumber_38 : decode cX12_writeNumber 38 = .ok (.bipush 10, 2) := by decide +kernel
theorem dX12_writeNumber_40 : decode cX12_writeNumber 40 = .ok (.idiv, 1) := by decide +kernel
theorem dX12_writeNumber_41 : decode cX12_writeNumber 41 = .ok (.istore_n 3, 1) := by decide +kernel
theorem dX12_writeNumber_42 : decode cX12_writeNumber 42 = .ok (.goto (-22), 3) := by decide +kernel
theorem dX12_writeNumber_45 : decode cX12_writeNumber 45 = .ok (.return_, 1) := by decide +kernel
theorem dX12_listing_0 : decode cX12_listing 0 = .ok (.aload_n 0, 1) := by decide +kernel
theorem dX12_listing_1 : decode cX12_listing 1 = .ok (.iconst 0, 1) := by decide +kernel
theorem dX12_listing_2 : decode cX12_listing 2 = .ok (.putfield 83, 3) := by decide +kernel
theorem dX12_listing_5 : decode cX12_listing 5 = .ok (.iload_n 1, 1) := by decide +kernel
theorem dX12_listing_6 : decode cX12_listing 6 = .ok (.invokestatic 277, 3) := by decide +kernel
theorem dX12_listing_9 : decode cX12_listing 9 = .ok (.ifCond .ne 10, 3) := by decide +kernel
theorem dX12_listing_12 : decode cX12_listing 12 = .ok (.aload_n 0, 1) := by decide +kernel
theorem dX12_listing_13 : decode cX12_listing 13 = .ok (.bipush (-2), 2) := by decide +kernel
theorem dX12_listing_15 : decode cX12_listing 15 = .ok (.invokevirtual 96, 3) := by decide +kernel
theorem dX12_listing_18 : decode cX12_listing 18 = .ok (.ireturn, 1) := by decide +kernel
theorem dX12_listing_19 : decode cX12_listing 19 = .ok (.aload_n 0, 1) := by decide +kernel
theorem dX12_listing_20 : decode cX12_listing 20 = .ok (.iconst 0, 1) := by decide +kernel
theorem dX12_listing_21 : decode cX12_listing 21 = .ok (.putfield 249, 3) := by decide +kernel
theorem dX12_listing_24 : decode cX12_listing 24 = .ok (.aload_n 0, 1) := by decide +kernel
theorem dX12_listing_25 : decode cX12_listing 25 = .ok (.iload_n 1, 1) := by decide +kernel
theorem dX12_listing_26 : decode cX12_listing 26 = .ok (.invokevirtual 119, 3) := by decide +kernel
theorem dX12_listing_29 : decode cX12_listing 29 = .ok (.istore_n 2, 1) := by decide +kernel
theorem dX12_listing_30 : decode cX12_listing 30 = .ok (.iload_n 2, 1) := by decide +kernel
theorem dX12_listing_31 : decode cX12_listing 31 = .ok (.ifCond .lt 96, 3) := by decide +kernel
theorem dX12_listing_34 : decode cX12_listing 34 = .ok (.aload_n 0, 1) := by decide +kernel
theorem dX12_listing_35 : decode cX12_listing 35 = .ok (.iload_n 1, 1) := by decide +kernel
theorem dX12_listing_36 : decode cX12_listing 36 = .ok (.iload_n 2, 1) := by decide +kernel
theorem dX12_listing_37 : decode cX12_listing 37 = .ok (.invokevirtual 122, 3) := by decide +kernel
theorem dX12_listing_40 : decode cX12_listing 40 = .ok (.istore_n 3, 1) := by decide +kernel
theorem dX12_listing_41 : decode cX12_listing 41 = .ok (.iload_n 3, 1) := by decide +kernel
theorem dX12_listing_42 : decode cX12_listing 42 = .ok (.ifCond .eq 79, 3) := by decide +kernel
theorem dX12_listing_45 : decode cX12_listing 45 = .ok (.iload_n 3, 1) := by decide +kernel
theorem dX12_listing_46 : decode cX12_listing 46 = .ok (.ifCond .lt 10, 3) := by decide +kernel
theorem dX12_listing_49 : decode cX12_listing 49 = .ok (.aload_n 0, 1) := by decide +kernel
theorem dX12_listing_50 : decode cX12_listing 50 = .ok (.getfield 249, 3) := by decide +kernel
theorem dX12_listing_53 : decode cX12_listing 53 = .ok (.ifCond .le 18, 3) := by decide +kernel
theorem dX12_listing_56 : decode cX12_listing 56 = .ok (.aload_n 0, 1) := by decide +kernel
theorem dX12_listing_57 : decode cX12_listing 57 = .ok (.iload_n 3, 1) := by decide +kernel
theorem dX12_listing_58 : decode cX12_listing 58 = .ok (.ifCond .ge 8, 3) := by decide +kernel
theorem dX12_listing_61 : decode cX12_listing 61 = .ok (.bipush 45, 2) := by decide +kernel
theorem dX12_listing_63 : decode cX12_listing 63 = .ok (.goto 5, 3) := by decide +kernel
theorem dX12_listing_66 : decode cX12_listing 66 = .ok (.bipush 43, 2) := by decide +kernel
theorem dX12_listing_68 : decode cX12_listing 68 = .ok (.invokevirtual 289, 3) := by decide +kernel
theorem dX12_listing_71 : decode cX12_listing 71 = .ok (.iload_n 2, 1) := by decide +kernel
theorem dX12_listing_72 : decode cX12_listing 72 = .ok (.ifCond .eq 13, 3) := by decide +kernel
theorem dX12_listing_75 : decode cX12_listing 75 = .ok (.iload_n 3, 1) := by decide +kernel
theorem dX12_listing_76 : decode cX12_listing 76 = .ok (.iconst 1, 1) := by decide +kernel
theorem dX12_listing_77 : decode cX12_listing 77 = .ok (.if_icmp .eq 18, 3) := by decide +kernel
theorem dX12_listing_80 : decode cX12_listing 80 = .ok (.iload_n 3, 1) := by decide +kernel
theorem dX12_listing_81 : decode cX12_listing 81 = .ok (.iconst (-1), 1) := by decide +kernel
theorem dX12_listing_82 : decode cX12_listing 82 = .ok (.if_icmp .eq 13, 3) := by decide +kernel
theorem dX12_listing_85 : decode cX12_listing 85 = .ok (.aload_n 0, 1) := by decide +kernel
theorem dX12_listing_86 : decode cX12_listing 86 = .ok (.iload_n 3, 1) := by decide +kernel
theorem dX12_listing_87 : decode cX12_listing 87 = .ok (.i2l, 1) := by decide +kernel
theorem dX12_listing_88 : decode cX12_listing 88 = .ok (.invokestatic 146, 3) := by decide +kernel
theorem dX12_listing_91 : decode cX12_listing 91 = .ok (.l2i, 1) := by decide +kernel
theorem dX12_listing_92 : decode cX12_listing 92 = .ok (.invokevirtual 292, 3) := by decide +kernel
theorem dX12_listing_95 : decode cX12_listing 95 = .ok (.iload_n 2, 1) := by decide +kernel
theorem dX12_listing_96 : decode cX12_listing 96 = .ok (.ifCond .le 9, 3) := by decide +kernel
theorem dX12_listing_99 : decode cX12_listing 99 = .ok (.aload_n 0, 1) := by decide +kernel
theorem dX12_listing_100 : decode cX12_listing 100 = .ok (.bipush 120, 2) := by decide +kernel
theorem dX12_listing_102 : decode cX12_listing 102 = .ok (.invokevirtual 289, 3) := by decide +kernel
theorem dX12_listing_105 : decode cX12_listing 105 = .ok (.iload_n 2, 1) := by decide +kernel
theorem dX12_listing_106 : decode cX12_listing 106 = .ok (.iconst 1, 1) := by decide +kernel
theorem dX12_listing_107 : decode cX12_listing 107 = .ok (.if_icmp .le 14, 3) := by decide +kernel
theorem dX12_listing_110 : decode cX12_listing 110 = .ok (.aload_n 0, 1) := by decide +kernel
theorem dX12_listing_111 : decode cX12_listing 111 = .ok (.bipush 94, 2) := by decide +kernel
theorem dX12_listing_113 : decode cX12_listing 113 = .ok (.invokevirtual 289, 3) := by decide +kernel
theorem dX12_listing_116 : decode cX12_listing 116 = .ok (.aload_n 0, 1) := by decide +kernel
theorem dX12_listing_117 : decode cX12_listing 117 = .ok (.iload_n 2, 1) := by decide +kernel
theorem dX12_listing_118 : decode cX12_listing 118 = .ok (.invokevirtual 292, 3) := by decide +kernel
theorem dX12_listing_121 : decode cX12_listing 121 = .ok (.iinc 2 (-1), 3) := by decide +kernel
theorem dX12_listing_124 : decode cX12_listing 124 = .ok (.goto (-94), 3) := by decide +kernel
theorem dX12_listing_127 : decode cX12_listing 127 = .ok (.aload_n 0, 1) := by decide +kernel
theorem dX12_listing_128 : decode cX12_listing 128 = .ok (.aload_n 0, 1) := by decide +kernel
theorem dX12_listing_129 : decode cX12_listing 129 = .ok (.getfield 249, 3) := by decide +kernel
theorem dX12_listing_132 : decode cX12_listing 132 = .ok (.invokevirtual 100, 3) := by decide +kernel
theorem dX12_listing_135 : decode cX12_listing 135 = .ok (.ireturn, 1) := by decide +kernel
theorem dX12_times__0 : decode cX12_times_ 0 = .ok (.aload_n 0, 1) := by decide +kernel
theorem dX12_times__1 : decode cX12_times_ 1 = .ok (.iconst 0, 1) := by decide +kernel
theorem dX12_times__2 : decode cX12_times_ 2 = .ok (.putfield 83, 3) := by decide +kernel
theorem dX12_times__5 : decode cX12_times_ 5 = .ok (.iload_n 1, 1) := by decide +kernel
theorem dX12_times__6 : decode cX12_times_ 6 = .ok (.invokestatic 277, 3) := by decide +kernel
theorem dX12_times__9 : decode cX12_times_ 9 = .ok (.ifCond .eq 17, 3) := by decide +kernel
theorem dX12_times__12 : decode cX12_times_ 12 = .ok (.iload_n 2, 1) := by decide +kernel
theorem dX12_times__13 : decode cX12_times_ 13 = .ok (.invokestatic 277, 3) := by decide +kernel
theorem dX12_times__16 : decode cX12_times_ 16 = .ok (.ifCond .eq 10, 3) := by decide +kernel
theorem dX12_times__19 : decode cX12_times_ 19 = .ok (.iload_n 3, 1) := by decide +kernel
theorem dX12_times__20 : decode cX12_times_ 20 = .ok (.invokestatic 277, 3) := by decide +kernel
theorem dX12_times__23 : decode cX12_times_ 23 = .ok (.ifCond .ne 10, 3) := by decide +kernel
theorem dX12_times__26 : decode cX12_times_ 26 = .ok (.aload_n 0, 1) := by decide +kernel
theorem dX12_times__27 : decode cX12_times_ 27 = .ok (.bipush (-2), 2) := by decide +kernel
theorem dX12_times__29 : decode cX12_times_ 29 = .ok (.invokevirtual 96, 3) := by decide +kernel
theorem dX12_times__32 : decode cX12_times_ 32 = .ok (.ireturn, 1) := by decide +kernel
theorem dX12_times__33 : decode cX12_times_ 33 = .ok (.aload_n 0, 1) := by decide +kernel
theorem dX12_times__34 : decode cX12_times_ 34 = .ok (.invokevirtual 116, 3) := by decide +kernel
theorem dX12_times__37 : decode cX12_times_ 37 = .ok (.iconst 0, 1) := by decide +kernel
theorem dX12_times__38 : decode cX12_times_ 38 = .ok (.istore 4, 2) := by decide +kernel
theorem dX12_times__40 : decode cX12_times_ 40 = .ok (.iload 4, 2) := by decide +kernel
theorem dX12_times__42 : decode cX12_times_ 42 = .ok (.aload_n 0, 1) := by decide +kernel
theorem dX12_times__43 : decode cX12_times_ 43 = .ok (.iload_n 1, 1) := by decide +kernel
theorem dX12_times__44 : decode cX12_times_ 44 = .ok (.invokevirtual 119, 3) := by decide +kernel
theorem dX12_times__47 : decode cX12_times_ 47 = .ok (.if_icmp .gt 58, 3) := by decide +kernel
theorem dX12_times__50 : decode cX12_times_ 50 = .ok (.iconst 0, 1) := by decide +kernel
theorem dX12_times__51 : decode cX12_times_ 51 = .ok (.istore 5, 2) := by decide +kernel
theorem dX12_times__53 : decode cX12_times_ 53 = .ok (.iload 5, 2) := by decide +kernel
theorem dX12_times__55 : decode cX12_times_ 55 = .ok (.aload_n 0, 1) := by decide +kernel
theorem dX12_times__56 : decode cX12_times_ 56 = .ok (.iload_n 2, 1) := by decide +kernel
theorem dX12_times__57 : decode cX12_times_ 57 = .ok (.invokevirtual 119, 3) := by decide +kernel
theorem dX12_times__60 : decode cX12_times_ 60 = .ok (.if_icmp .gt 39, 3) := by decide +kernel
theorem dX12_times__63 : decode cX12_times_ 63 = .ok (.aload_n 0, 1) := by decide +kernel
theorem dX12_times__64 : decode cX12_times_ 64 = .ok (.getfield 29, 3) := by decide +kernel
theorem dX12_times__67 : decode cX12_times_ 67 = .ok (.iload 4, 2) := by decide +kernel
theorem dX12_times__69 : decode cX12_times_ 69 = .ok (.iload 5, 2) := by decide +kernel
theorem dX12_times__71 : decode cX12_times_ 71 = .ok (.iadd, 1) := by decide +kernel
theorem dX12_times__72 : decode cX12_times_ 72 = .ok (.dup2, 1) := by decide +kernel
theorem dX12_times__73 : decode cX12_times_ 73 = .ok (.laload, 1) := by decide +kernel
theorem dX12_times__74 : decode cX12_times_ 74 = .ok (.aload_n 0, 1) := by decide +kernel
theorem dX12_times__75 : decode cX12_times_ 75 = .ok (.iload_n 1, 1) := by decide +kernel
theorem dX12_times__76 : decode cX12_times_ 76 = .ok (.iload 4, 2) := by decide +kernel
theorem dX12_times__78 : decode cX12_times_ 78 = .ok (.invokevirtual 122, 3) := by decide +kernel
theorem dX12_times__81 : decode cX12_times_ 81 = .ok (.i2l, 1) := by decide +kernel
theorem dX12_times__82 : decode cX12_times_ 82 = .ok (.aload_n 0, 1) := by decide +kernel
theorem dX12_times__83 : decode cX12_times_ 83 = .ok (.iload_n 2, 1) := by decide +kernel
theorem dX12_times__84 : decode cX12_times_ 84 = .ok (.iload 5, 2) := by decide +kernel
theorem dX12_times__86 : decode cX12_times_ 86 = .ok (.invokevirtual 122, 3) := by decide +kernel
theorem dX12_times__89 : decode cX12_times_ 89 = .ok (.i2l, 1) := by decide +kernel
theorem dX12_times__90 : decode cX12_times_ 90 = .ok (.lmul, 1) := by decide +kernel
theorem dX12_times__91 : decode cX12_times_ 91 = .ok (.ladd, 1) := by decide +kernel
theorem dX12_times__92 : decode cX12_times_ 92 = .ok (.lastore, 1) := by decide +kernel
theorem dX12_times__93 : decode cX12_times_ 93 = .ok (.iinc 5 1, 3) := by decide +kernel
theorem dX12_times__96 : decode cX12_times_ 96 = .ok (.goto (-43), 3) := by decide +kernel
theorem dX12_times__99 : decode cX12_times_ 99 = .ok (.iinc 4 1, 3) := by decide +kernel
theorem dX12_times__102 : decode cX12_times_ 102 = .ok (.goto (-62), 3) := by decide +kernel
theorem dX12_times__105 : decode cX12_times_ 105 = .ok (.aload_n 0, 1) := by decide +kernel
theorem dX12_times__106 : decode cX12_times_ 106 = .ok (.iload_n 3, 1) := by decide +kernel
theorem dX12_times__107 : decode cX12_times_ 107 = .ok (.iconst 1, 1) := by decide +kernel
theorem dX12_times__108 : decode cX12_times_ 108 = .ok (.invokevirtual 286, 3) := by decide +kernel
theorem dX12_times__111 : decode cX12_times_ 111 = .ok (.ireturn, 1) := by decide +kernel
theorem dX12_by_0 : decode cX12_by 0 = .ok (.aload_n 0, 1) := by decide +kernel
theorem dX12_by_1 : decode cX12_by 1 = .ok (.iconst 0, 1) := by decide +kernel
theorem dX12_by_2 : decode cX12_by 2 = .ok (.putfield 83, 3) := by decide +kernel
theorem dX12_by_5 : decode cX12_by 5 = .ok (.iload_n 1, 1) := by decide +kernel
theorem dX12_by_6 : decode cX12_by 6 = .ok (.invokestatic 277, 3) := by decide +kernel
theorem dX12_by_9 : decode cX12_by 9 = .ok (.ifCond .eq 17, 3) := by decide +kernel
theorem dX12_by_12 : decode cX12_by 12 = .ok (.iload_n 2, 1) := by decide +kernel
theorem dX12_by_13 : decode cX12_by 13 = .ok (.invokestatic 277, 3) := by decide +kernel
theorem dX12_by_16 : decode cX12_by 16 = .ok (.ifCond .eq 10, 3) := by decide +kernel
theorem dX12_by_19 : decode cX12_by 19 = .ok (.iload_n 3, 1) := by decide +kernel
theorem dX12_by_20 : decode cX12_by 20 = .ok (.invokestatic 277, 3) := by decide +kernel
theorem dX12_by_23 : decode cX12_by 23 = .ok (.ifCond .ne 10, 3) := by decide +kernel
theorem dX12_by_26 : decode cX12_by 26 = .ok (.aload_n 0, 1) := by decide +kernel
theorem dX12_by_27 : decode cX12_by 27 = .ok (.bipush (-2), 2) := by decide +kernel
theorem dX12_by_29 : decode cX12_by 29 = .ok (.invokevirtual 96, 3) := by decide +kernel
theorem dX12_by_32 : decode cX12_by 32 = .ok (.ireturn, 1) := by decide +kernel
theorem dX12_by_33 : decode cX12_by 33 = .ok (.aload_n 0, 1) := by decide +kernel
theorem dX12_by_34 : decode cX12_by 34 = .ok (.iload_n 1, 1) := by decide +kernel
theorem dX12_by_35 : decode cX12_by 35 = .ok (.invokevirtual 295, 3) := by decide +kernel
theorem dX12_by_38 : decode cX12_by 38 = .ok (.aload_n 0, 1) := by decide +kernel
theorem dX12_by_39 : decode cX12_by 39 = .ok (.iload_n 2, 1) := by decide +kernel
theorem dX12_by_40 : decode cX12_by 40 = .ok (.invokevirtual 298, 3) := by decide +kernel
theorem dX12_by_43 : decode cX12_by 43 = .ok (.aload_n 0, 1) := by decide +kernel
theorem dX12_by_44 : decode cX12_by 44 = .ok (.getfield 113, 3) := by decide +kernel
theorem dX12_by_47 : decode cX12_by 47 = .ok (.aload_n 0, 1) := by decide +kernel
theorem dX12_by_48 : decode cX12_by 48 = .ok (.getfield 143, 3) := by decide +kernel
theorem dX12_by_51 : decode cX12_by 51 = .ok (.if_icmp .lt 10, 3) := by decide +kernel
theorem dX12_by_54 : decode cX12_by 54 = .ok (.aload_n 0, 1) := by decide +kernel
theorem dX12_by_55 : decode cX12_by 55 = .ok (.invokevirtual 160, 3) := by decide +kernel
theorem dX12_by_58 : decode cX12_by 58 = .ok (.ifCond .ne 10, 3) := by decide +kernel
theorem dX12_by_61 : decode cX12_by 61 = .ok (.aload_n 0, 1) := by decide +kernel
theorem dX12_by_62 : decode cX12_by 62 = .ok (.bipush (-4), 2) := by decide +kernel
theorem dX12_by_64 : decode cX12_by 64 = .ok (.invokevirtual 96, 3) := by decide +kernel
theorem dX12_by_67 : decode cX12_by 67 = .ok (.ireturn, 1) := by decide +kernel
theorem dX12_by_68 : decode cX12_by 68 = .ok (.aload_n 0, 1) := by decide +kernel
theorem dX12_by_69 : decode cX12_by 69 = .ok (.invokevirtual 163, 3) := by decide +kernel
theorem dX12_by_72 : decode cX12_by 72 = .ok (.aload_n 0, 1) := by decide +kernel
theorem dX12_by_73 : decode cX12_by 73 = .ok (.iload_n 3, 1) := by decide +kernel
theorem dX12_by_74 : decode cX12_by 74 = .ok (.iconst 2, 1) := by decide +kernel
theorem dX12_by_75 : decode cX12_by 75 = .ok (.invokevirtual 286, 3) := by decide +kernel
theorem dX12_by_78 : decode cX12_by 78 = .ok (.ireturn, 1) := by decide +kernel
theorem dX12_plus__0 : decode cX12_plus_ 0 = .ok (.aload_n 0, 1) := by decide +kernel
theorem dX12_plus__1 : decode cX12_plus_ 1 = .ok (.iconst 0, 1) := by decide +kernel
theorem dX12_plus__2 : decode cX12_plus_ 2 = .ok (.putfield 83, 3) := by decide +kernel
theorem dX12_plus__5 : decode cX12_plus_ 5 = .ok (.iload_n 1, 1) := by decide +kernel
theorem dX12_plus__6 : decode cX12_plus_ 6 = .ok (.i2l, 1) := by decide +kernel
theorem dX12_plus__7 : decode cX12_plus_ 7 = .ok (.lconst 0, 1) := by decide +kernel
theorem dX12_plus__8 : decode cX12_plus_ 8 = .ok (.lconst 1, 1) := by decide +kernel
theorem dX12_plus__9 : decode cX12_plus_ 9 = .ok (.invokestatic 103, 3) := by decide +kernel
theorem dX12_plus__12 : decode cX12_plus_ 12 = .ok (.ifCond .ne 9, 3) := by decide +kernel
theorem dX12_plus__15 : decode cX12_plus_ 15 = .ok (.aload_n 0, 1) := by decide +kernel
theorem dX12_plus__16 : decode cX12_plus_ 16 = .ok (.iconst (-1), 1) := by decide +kernel
theorem dX12_plus__17 : decode cX12_plus_ 17 = .ok (.invokevirtual 96, 3) := by decide +kernel
theorem dX12_plus__20 : decode cX12_plus_ 20 = .ok (.ireturn, 1) := by decide +kernel
theorem dX12_plus__21 : decode cX12_plus_ 21 = .ok (.iload_n 2, 1) := by decide +kernel
theorem dX12_plus__22 : decode cX12_plus_ 22 = .ok (.invokestatic 277, 3) := by decide +kernel
theorem dX12_plus__25 : decode cX12_plus_ 25 = .ok (.ifCond .eq 18, 3) := by decide +kernel
theorem dX12_plus__28 : decode cX12_plus_ 28 = .ok (.iload_n 3, 1) := by decide +kernel
theorem dX12_plus__29 : decode cX12_plus_ 29 = .ok (.invokestatic 277, 3) := by decide +kernel
theorem dX12_plus__32 : decode cX12_plus_ 32 = .ok (.ifCond .eq 11, 3) := by decide +kernel
theorem dX12_plus__35 : decode cX12_plus_ 35 = .ok (.iload 4, 2) := by decide +kernel
theorem dX12_plus__37 : decode cX12_plus_ 37 = .ok (.invokestatic 277, 3) := by decide +kernel
theorem dX12_plus__40 : decode cX12_plus_ 40 = .ok (.ifCond .ne 10, 3) := by decide +kernel
theorem dX12_plus__43 : decode cX12_plus_ 43 = .ok (.aload_n 0, 1) := by decide +kernel
theorem dX12_plus__44 : decode cX12_plus_ 44 = .ok (.bipush (-2), 2) := by decide +kernel
theorem dX12_plus__46 : decode cX12_plus_ 46 = .ok (.invokevirtual 96, 3) := by decide +kernel
theorem dX12_plus__49 : decode cX12_plus_ 49 = .ok (.ireturn, 1) := by decide +kernel
theorem dX12_plus__50 : decode cX12_plus_ 50 = .ok (.aload_n 0, 1) := by decide +kernel
theorem dX12_plus__51 : decode cX12_plus_ 51 = .ok (.invokevirtual 116, 3) := by decide +kernel
theorem dX12_plus__54 : decode cX12_plus_ 54 = .ok (.iconst 0, 1) := by decide +kernel
theorem dX12_plus__55 : decode cX12_plus_ 55 = .ok (.istore 5, 2) := by decide +kernel
theorem dX12_plus__57 : decode cX12_plus_ 57 = .ok (.iload 5, 2) := by decide +kernel
theorem dX12_plus__59 : decode cX12_plus_ 59 = .ok (.bipush 12, 2) := by decide +kernel
theorem dX12_plus__61 : decode cX12_plus_ 61 = .ok (.if_icmp .gt 47, 3) := by decide +kernel
theorem dX12_plus__64 : decode cX12_plus_ 64 = .ok (.aload_n 0, 1) := by decide +kernel
theorem dX12_plus__65 : decode cX12_plus_ 65 = .ok (.getfield 29, 3) := by decide +kernel
theorem dX12_plus__68 : decode cX12_plus_ 68 = .ok (.iload 5, 2) := by decide +kernel
theorem dX12_plus__70 : decode cX12_plus_ 70 = .ok (.aload_n 0, 1) := by decide +kernel
theorem dX12_plus__71 : decode cX12_plus_ 71 = .ok (.iload_n 2, 1) := by decide +kernel
theorem dX12_plus__72 : decode cX12_plus_ 72 = .ok (.iload 5, 2) := by decide +kernel
theorem dX12_plus__74 : decode cX12_plus_ 74 = .ok (.invokevirtual 122, 3) := by decide +kernel
theorem dX12_plus__77 : decode cX12_plus_ 77 = .ok (.iload_n 1, 1) := by decide +kernel
theorem dX12_plus__78 : decode cX12_plus_ 78 = .ok (.ifCond .ne 13, 3) := by decide +kernel
theorem dX12_plus__81 : decode cX12_plus_ 81 = .ok (.aload_n 0, 1) := by decide +kernel
theorem dX12_plus__82 : decode cX12_plus_ 82 = .ok (.iload_n 3, 1) := by decide +kernel
theorem dX12_plus__83 : decode cX12_plus_ 83 = .ok (.iload 5, 2) := by decide +kernel
theorem dX12_plus__85 : decode cX12_plus_ 85 = .ok (.invokevirtual 122, 3) := by decide +kernel
theorem dX12_plus__88 : decode cX12_plus_ 88 = .ok (.goto 11, 3) := by decide +kernel
theorem dX12_plus__91 : decode cX12_plus_ 91 = .ok (.aload_n 0, 1) := by decide +kernel
theorem dX12_plus__92 : decode cX12_plus_ 92 = .ok (.iload_n 3, 1) := by decide +kernel
theorem dX12_plus__93 : decode cX12_plus_ 93 = .ok (.iload 5, 2) := by decide +kernel
theorem dX12_plus__95 : decode cX12_plus_ 95 = .ok (.invokevirtual 122, 3) := by decide +kernel
theorem dX12_plus__98 : decode cX12_plus_ 98 = .ok (.ineg, 1) := by decide +kernel
theorem dX12_plus__99 : decode cX12_plus_ 99 = .ok (.iadd, 1) := by decide +kernel
theorem dX12_plus__100 : decode cX12_plus_ 100 = .ok (.i2l, 1) := by decide +kernel
theorem dX12_plus__101 : decode cX12_plus_ 101 = .ok (.lastore, 1) := by decide +kernel
theorem dX12_plus__102 : decode cX12_plus_ 102 = .ok (.iinc 5 1, 3) := by decide +kernel
theorem dX12_plus__105 : decode cX12_plus_ 105 = .ok (.goto (-48), 3) := by decide +kernel
theorem dX12_plus__108 : decode cX12_plus_ 108 = .ok (.aload_n 0, 1) := by decide +kernel
theorem dX12_plus__109 : decode cX12_plus_ 109 = .ok (.iload 4, 2) := by decide +kernel
theorem dX12_plus__111 : decode cX12_plus_ 111 = .ok (.iconst 3, 1) := by decide +kernel
theorem dX12_plus__112 : decode cX12_plus_ 112 = .ok (.invokevirtual 286, 3) := by decide +kernel
theorem dX12_plus__115 : decode cX12_plus_ 115 = .ok (.ireturn, 1) := by decide +kernel
theorem dX12_turn_0 : decode cX12_turn 0 = .ok (.aload_n 0, 1) := by decide +kernel
theorem dX12_turn_1 : decode cX12_turn 1 = .ok (.iconst 0, 1) := by decide +kernel
theorem dX12_turn_2 : decode cX12_turn 2 = .ok (.putfield 83, 3) := by decide +kernel
theorem dX12_turn_5 : decode cX12_turn 5 = .ok (.iload_n 1, 1) := by decide +kernel
theorem dX12_turn_6 : decode cX12_turn 6 = .ok (.i2l, 1) := by decide +kernel
theorem dX12_turn_7 : decode cX12_turn 7 = .ok (.lconst 0, 1) := by decide +kernel
theorem dX12_turn_8 : decode cX12_turn 8 = .ok (.ldc2_w 301, 3) := by decide +kernel
theorem dX12_turn_11 : decode cX12_turn 11 = .ok (.invokestatic 103, 3) := by decide +kernel
theorem dX12_turn_14 : decode cX12_turn 14 = .ok (.ifCond .ne 9, 3) := by decide +kernel
theorem dX12_turn_17 : decode cX12_turn 17 = .ok (.aload_n 0, 1) := by decide +kernel
theorem dX12_turn_18 : decode cX12_turn 18 = .ok (.iconst (-1), 1) := by decide +kernel
theorem dX12_turn_19 : decode cX12_turn 19 = .ok (.invokevirtual 96, 3) := by decide +kernel
theorem dX12_turn_22 : decode cX12_turn 22 = .ok (.ireturn, 1) := by decide +kernel
theorem dX12_turn_23 : decode cX12_turn 23 = .ok (.iload_n 2, 1) := by decide +kernel
theorem dX12_turn_24 : decode cX12_turn 24 = .ok (.invokestatic 277, 3) := by decide +kernel
theorem dX12_turn_27 : decode cX12_turn 27 = .ok (.ifCond .eq 10, 3) := by decide +kernel
theorem dX12_turn_30 : decode cX12_turn 30 = .ok (.iload_n 3, 1) := by decide +kernel
theorem dX12_turn_31 : decode cX12_turn 31 = .ok (.invokestatic 277, 3) := by decide +kernel
theorem dX12_turn_34 : decode cX12_turn 34 = .ok (.ifCond .ne 10, 3) := by decide +kernel
theorem dX12_turn_37 : decode cX12_turn 37 = .ok (.aload_n 0, 1) := by decide +kernel
theorem dX12_turn_38 : decode cX12_turn 38 = .ok (.bipush (-2), 2) := by decide +kernel
theorem dX12_turn_40 : decode cX12_turn 40 = .ok (.invokevirtual 96, 3) := by decide +kernel
theorem dX12_turn_43 : decode cX12_turn 43 = .ok (.ireturn, 1) := by decide +kernel
theorem dX12_turn_44 : decode cX12_turn 44 = .ok (.aload_n 0, 1) := by decide +kernel
theorem dX12_turn_45 : decode cX12_turn 45 = .ok (.iload_n 2, 1) := by decide +kernel
theorem dX12_turn_46 : decode cX12_turn 46 = .ok (.invokevirtual 119, 3) := by decide +kernel
theorem dX12_turn_49 : decode cX12_turn 49 = .ok (.istore 4, 2) := by decide +kernel
theorem dX12_turn_51 : decode cX12_turn 51 = .ok (.aload_n 0, 1) := by decide +kernel
theorem dX12_turn_52 : decode cX12_turn 52 = .ok (.iload_n 2, 1) := by decide +kernel
theorem dX12_turn_53 : decode cX12_turn 53 = .ok (.invokevirtual 295, 3) := by decide +kernel
theorem dX12_turn_56 : decode cX12_turn 56 = .ok (.iload_n 1, 1) := by decide +kernel
theorem dX12_turn_57 : decode cX12_turn 57 = .ok (.iconst 5, 1) := by decide +kernel
theorem dX12_turn_58 : decode cX12_turn 58 = .ok (.if_icmp .ne 58, 3) := by decide +kernel
theorem dX12_turn_61 : decode cX12_turn 61 = .ok (.aload_n 0, 1) := by decide +kernel
theorem dX12_turn_62 : decode cX12_turn 62 = .ok (.invokevirtual 303, 3) := by decide +kernel
theorem dX12_turn_65 : decode cX12_turn 65 = .ok (.aload_n 0, 1) := by decide +kernel
theorem dX12_turn_66 : decode cX12_turn 66 = .ok (.invokevirtual 116, 3) := by decide +kernel
theorem dX12_turn_69 : decode cX12_turn 69 = .ok (.iconst 0, 1) := by decide +kernel
theorem dX12_turn_70 : decode cX12_turn 70 = .ok (.istore 5, 2) := by decide +kernel
theorem dX12_turn_72 : decode cX12_turn 72 = .ok (.iload 5, 2) := by decide +kernel
theorem dX12_turn_74 : decode cX12_turn 74 = .ok (.iload 4, 2) := by decide +kernel
theorem dX12_turn_76 : decode cX12_turn 76 = .ok (.if_icmp .gt 33, 3) := by decide +kernel
theorem dX12_turn_79 : decode cX12_turn 79 = .ok (.aload_n 0, 1) := by decide +kernel
theorem dX12_turn_80 : decode cX12_turn 80 = .ok (.getfield 196, 3) := by decide +kernel
theorem dX12_turn_83 : decode cX12_turn 83 = .ok (.ifCond .le 26, 3) := by decide +kernel
theorem dX12_turn_86 : decode cX12_turn 86 = .ok (.aload_n 0, 1) := by decide +kernel
theorem dX12_turn_87 : decode cX12_turn 87 = .ok (.getfield 29, 3) := by decide +kernel
theorem dX12_turn_90 : decode cX12_turn 90 = .ok (.iload 5, 2) := by decide +kernel
theorem dX12_turn_92 : decode cX12_turn 92 = .ok (.aload_n 0, 1) := by decide +kernel
theorem dX12_turn_93 : decode cX12_turn 93 = .ok (.getfield 45, 3) := by decide +kernel
theorem dX12_turn_96 : decode cX12_turn 96 = .ok (.bipush 13, 2) := by decide +kernel
theorem dX12_turn_98 : decode cX12_turn 98 = .ok (.iload 5, 2) := by decide +kernel
theorem dX12_turn_100 : decode cX12_turn 100 = .ok (.iadd, 1) := by decide +kernel
theorem dX12_turn_101 : decode cX12_turn 101 = .ok (.laload, 1) := by decide +kernel
theorem dX12_turn_102 : decode cX12_turn 102 = .ok (.lastore, 1) := by decide +kernel
theorem dX12_turn_103 : decode cX12_turn 103 = .ok (.iinc 5 1, 3) := by decide +kernel
theorem dX12_turn_106 : decode cX12_turn 106 = .ok (.goto (-34), 3) := by decide +kernel
theorem dX12_turn_109 : decode cX12_turn 109 = .ok (.aload_n 0, 1) := by decide +kernel
theorem dX12_turn_110 : decode cX12_turn 110 = .ok (.iload_n 3, 1) := by decide +kernel
theorem dX12_turn_111 : decode cX12_turn 111 = .ok (.iconst 4, 1) := by decide +kernel
theorem dX12_turn_112 : decode cX12_turn 112 = .ok (.invokevirtual 286, 3) := by decide +kernel
theorem dX12_turn_115 : decode cX12_turn 115 = .ok (.ireturn, 1) := by decide +kernel
theorem dX12_turn_116 : decode cX12_turn 116 = .ok (.aload_n 0, 1) := by decide +kernel
theorem dX12_turn_117 : decode cX12_turn 117 = .ok (.invokevirtual 116, 3) := by decide +kernel
theorem dX12_turn_120 : decode cX12_turn 120 = .ok (.iconst 0, 1) := by decide +kernel
theorem dX12_turn_121 : decode cX12_turn 121 = .ok (.istore 5, 2) := by decide +kernel
theorem dX12_turn_123 : decode cX12_turn 123 = .ok (.iload 5, 2) := by decide +kernel
theorem dX12_turn_125 : decode cX12_turn 125 = .ok (.iload 4, 2) := by decide +kernel
theorem dX12_turn_127 : decode cX12_turn 127 = .ok (.if_icmp .gt 144, 3) := by decide +kernel
theorem dX12_turn_130 : decode cX12_turn 130 = .ok (.aload_n 0, 1) := by decide +kernel
theorem dX12_turn_131 : decode cX12_turn 131 = .ok (.iload_n 2, 1) := by decide +kernel
theorem dX12_turn_132 : decode cX12_turn 132 = .ok (.iload 5, 2) := by decide +kernel
theorem dX12_turn_134 : decode cX12_turn 134 = .ok (.invokevirtual 122, 3) := by decide +kernel
theorem dX12_turn_137 : decode cX12_turn 137 = .ok (.istore 6, 2) := by decide +kernel
theorem dX12_turn_139 : decode cX12_turn 139 = .ok (.iload_n 1, 1) := by decide +kernel
theorem dX12_turn_140 : decode cX12_turn 140 = .ok (.tableswitch 104 0 3 #[32, 48, 75, 90], 32) := by decide +kernel
theorem dX12_turn_172 : decode cX12_turn 172 = .ok (.aload_n 0, 1) := by decide +kernel
theorem dX12_turn_173 : decode cX12_turn 173 = .ok (.getfield 29, 3) := by decide +kernel
theorem dX12_turn_176 : decode cX12_turn 176 = .ok (.iload 4, 2) := by decide +kernel
theorem dX12_turn_178 : decode cX12_turn 178 = .ok (.iload 5, 2) := by decide +kernel
theorem dX12_turn_180 : decode cX12_turn 180 = .ok (.isub, 1) := by decide +kernel
theorem dX12_turn_181 : decode cX12_turn 181 = .ok (.iload 6, 2) := by decide +kernel
theorem dX12_turn_183 : decode cX12_turn 183 = .ok (.i2l, 1) := by decide +kernel
theorem dX12_turn_184 : decode cX12_turn 184 = .ok (.lastore, 1) := by decide +kernel
theorem dX12_turn_185 : decode cX12_turn 185 = .ok (.goto 80, 3) := by decide +kernel
theorem dX12_turn_188 : decode cX12_turn 188 = .ok (.aload_n 0, 1) := by decide +kernel
theorem dX12_turn_189 : decode cX12_turn 189 = .ok (.getfield 29, 3) := by decide +kernel
theorem dX12_turn_192 : decode cX12_turn 192 = .ok (.iload 5, 2) := by decide +kernel
theorem dX12_turn_194 : decode cX12_turn 194 = .ok (.iload 5, 2) := by decide +kernel
theorem dX12_turn_196 : decode cX12_turn 196 = .ok (.iconst 2, 1) := by decide +kernel
theorem dX12_turn_197 : decode cX12_turn 197 = .ok (.irem, 1) := by decide +kernel
theorem dX12_turn_198 : decode cX12_turn 198 = .ok (.ifCond .ne 9, 3) := by decide +kernel
theorem dX12_turn_201 : decode cX12_turn 201 = .ok (.iload 6, 2) := by decide +kernel
theorem dX12_turn_203 : decode cX12_turn 203 = .ok (.i2l, 1) := by decide +kernel
theorem dX12_turn_204 : decode cX12_turn 204 = .ok (.goto 7, 3) := by decide +kernel
theorem dX12_turn_207 : decode cX12_turn 207 = .ok (.iload 6, 2) := by decide +kernel
theorem dX12_turn_209 : decode cX12_turn 209 = .ok (.ineg, 1) := by decide +kernel
theorem dX12_turn_210 : decode cX12_turn 210 = .ok (.i2l, 1) := by decide +kernel
theorem dX12_turn_211 : decode cX12_turn 211 = .ok (.lastore, 1) := by decide +kernel
theorem dX12_turn_212 : decode cX12_turn 212 = .ok (.goto 53, 3) := by decide +kernel
theorem dX12_turn_215 : decode cX12_turn 215 = .ok (.aload_n 0, 1) := by decide +kernel
theorem dX12_turn_216 : decode cX12_turn 216 = .ok (.getfield 29, 3) := by decide +kernel
theorem dX12_turn_219 : decode cX12_turn 219 = .ok (.iconst 2, 1) := by decide +kernel
theorem dX12_turn_220 : decode cX12_turn 220 = .ok (.iload 5, 2) := by decide +kernel
theorem dX12_turn_222 : decode cX12_turn 222 = .ok (.imul, 1) := by decide +kernel
theorem dX12_turn_223 : decode cX12_turn 223 = .ok (.iload 6, 2) := by decide +kernel
theorem dX12_turn_225 : decode cX12_turn 225 = .ok (.i2l, 1) := by decide +kernel
theorem dX12_turn_226 : decode cX12_turn 226 = .ok (.lastore, 1) := by decide +kernel
theorem dX12_turn_227 : decode cX12_turn 227 = .ok (.goto 38, 3) := by decide +kernel
theorem dX12_turn_230 : decode cX12_turn 230 = .ok (.aload_n 0, 1) := by decide +kernel
theorem dX12_turn_231 : decode cX12_turn 231 = .ok (.getfield 29, 3) := by decide +kernel
theorem dX12_turn_234 : decode cX12_turn 234 = .ok (.iload 5, 2) := by decide +kernel
theorem dX12_turn_236 : decode cX12_turn 236 = .ok (.iload 6, 2) := by decide +kernel
theorem dX12_turn_238 : decode cX12_turn 238 = .ok (.ineg, 1) := by decide +kernel
theorem dX12_turn_239 : decode cX12_turn 239 = .ok (.i2l, 1) := by decide +kernel
theorem dX12_turn_240 : decode cX12_turn 240 = .ok (.lastore, 1) := by decide +kernel
theorem dX12_turn_241 : decode cX12_turn 241 = .ok (.goto 24, 3) := by decide +kernel
theorem dX12_turn_244 : decode cX12_turn 244 = .ok (.iload 5, 2) := by decide +kernel
theorem dX12_turn_246 : decode cX12_turn 246 = .ok (.ifCond .le 19, 3) := by decide +kernel
theorem dX12_turn_249 : decode cX12_turn 249 = .ok (.aload_n 0, 1) := by decide +kernel
theorem dX12_turn_250 : decode cX12_turn 250 = .ok (.getfield 29, 3) := by decide +kernel
theorem dX12_turn_253 : decode cX12_turn 253 = .ok (.iload 5, 2) := by decide +kernel
theorem dX12_turn_255 : decode cX12_turn 255 = .ok (.iconst 1, 1) := by decide +kernel
theorem dX12_turn_256 : decode cX12_turn 256 = .ok (.isub, 1) := by decide +kernel
theorem dX12_turn_257 : decode cX12_turn 257 = .ok (.iload 6, 2) := by decide +kernel
theorem dX12_turn_259 : decode cX12_turn 259 = .ok (.i2l, 1) := by decide +kernel
theorem dX12_turn_260 : decode cX12_turn 260 = .ok (.iload 5, 2) := by decide +kernel
theorem dX12_turn_262 : decode cX12_turn 262 = .ok (.i2l, 1) := by decide +kernel
theorem dX12_turn_263 : decode cX12_turn 263 = .ok (.lmul, 1) := by decide +kernel
theorem dX12_turn_264 : decode cX12_turn 264 = .ok (.lastore, 1) := by decide +kernel
theorem dX12_turn_265 : decode cX12_turn 265 = .ok (.iinc 5 1, 3) := by decide +kernel
theorem dX12_turn_268 : decode cX12_turn 268 = .ok (.goto (-145), 3) := by decide +kernel
theorem dX12_turn_271 : decode cX12_turn 271 = .ok (.aload_n 0, 1) := by decide +kernel
theorem dX12_turn_272 : decode cX12_turn 272 = .ok (.iload_n 3, 1) := by decide +kernel
theorem dX12_turn_273 : decode cX12_turn 273 = .ok (.iconst 4, 1) := by decide +kernel
theorem dX12_turn_274 : decode cX12_turn 274 = .ok (.invokevirtual 286, 3) := by decide +kernel
theorem dX12_turn_277 : decode cX12_turn 277 = .ok (.ireturn, 1) := by decide +kernel
theorem dX12_cyclotomic_0 : decode cX12_cyclotomic 0 = .ok (.aload_n 0, 1) := by decide +kernel
theorem dX12_cyclotomic_1 : decode cX12_cyclotomic 1 = .ok (.iconst 0, 1) := by decide +kernel
theorem dX12_cyclotomic_2 : decode cX12_cyclotomic 2 = .ok (.putfield 83, 3) := by decide +kernel
theorem dX12_cyclotomic_5 : decode cX12_cyclotomic 5 = .ok (.aload_n 0, 1) := by decide +kernel
theorem dX12_cyclotomic_6 : decode cX12_cyclotomic 6 = .ok (.iload_n 1, 1) := by decide +kernel
theorem dX12_cyclotomic_7 : decode cX12_cyclotomic 7 = .ok (.invokevirtual 168, 3) := by decide +kernel
theorem dX12_cyclotomic_10 : decode cX12_cyclotomic 10 = .ok (.ifCond .ne 9, 3) := by decide +kernel
theorem dX12_cyclotomic_13 : decode cX12_cyclotomic 13 = .ok (.aload_n 0, 1) := by decide +kernel
theorem dX12_cyclotomic_14 : decode cX12_cyclotomic 14 = .ok (.iconst (-1), 1) := by decide +kernel
theorem dX12_cyclotomic_15 : decode cX12_cyclotomic 15 = .ok (.invokevirtual 96, 3) := by decide +kernel
theorem dX12_cyclotomic_18 : decode cX12_cyclotomic 18 = .ok (.ireturn, 1) := by decide +kernel
theorem dX12_cyclotomic_19 : decode cX12_cyclotomic 19 = .ok (.iload_n 2, 1) := by decide +kernel
theorem dX12_cyclotomic_20 : decode cX12_cyclotomic 20 = .ok (.invokestatic 277, 3) := by decide +kernel
theorem dX12_cyclotomic_23 : decode cX12_cyclotomic 23 = .ok (.ifCond .ne 10, 3) := by decide +kernel
theorem dX12_cyclotomic_26 : decode cX12_cyclotomic 26 = .ok (.aload_n 0, 1) := by decide +kernel
theorem dX12_cyclotomic_27 : decode cX12_cyclotomic 27 = .ok (.bipush (-2), 2) := by decide +kernel
theorem dX12_cyclotomic_29 : decode cX12_cyclotomic 29 = .ok (.invokevirtual 96, 3) := by decide +kernel
theorem dX12_cyclotomic_32 : decode cX12_cyclotomic 32 = .ok (.ireturn, 1) := by decide +kernel
theorem dX12_cyclotomic_33 : decode cX12_cyclotomic 33 = .ok (.aload_n 0, 1) := by decide +kernel
theorem dX12_cyclotomic_34 : decode cX12_cyclotomic 34 = .ok (.invokevirtual 116, 3) := by decide +kernel
theorem dX12_cyclotomic_37 : decode cX12_cyclotomic 37 = .ok (.iconst 0, 1) := by decide +kernel
theorem dX12_cyclotomic_38 : decode cX12_cyclotomic 38 = .ok (.istore_n 3, 1) := by decide +kernel
theorem dX12_cyclotomic_39 : decode cX12_cyclotomic 39 = .ok (.iload_n 3, 1) := by decide +kernel
theorem dX12_cyclotomic_40 : decode cX12_cyclotomic 40 = .ok (.bipush 12, 2) := by decide +kernel
theorem dX12_cyclotomic_42 : decode cX12_cyclotomic 42 = .ok (.if_icmp .gt 29, 3) := by decide +kernel
theorem dX12_cyclotomic_45 : decode cX12_cyclotomic 45 = .ok (.aload_n 0, 1) := by decide +kernel
theorem dX12_cyclotomic_46 : decode cX12_cyclotomic 46 = .ok (.getfield 29, 3) := by decide +kernel
theorem dX12_cyclotomic_49 : decode cX12_cyclotomic 49 = .ok (.iload_n 3, 1) := by decide +kernel
theorem dX12_cyclotomic_50 : decode cX12_cyclotomic 50 = .ok (.aload_n 0, 1) := by decide +kernel
theorem dX12_cyclotomic_51 : decode cX12_cyclotomic 51 = .ok (.getfield 42, 3) := by decide +kernel
theorem dX12_cyclotomic_54 : decode cX12_cyclotomic 54 = .ok (.bipush 14, 2) := by decide +kernel
theorem dX12_cyclotomic_56 : decode cX12_cyclotomic 56 = .ok (.iload_n 1, 1) := by decide +kernel
theorem dX12_cyclotomic_57 : decode cX12_cyclotomic 57 = .ok (.imul, 1) := by decide +kernel
theorem dX12_cyclotomic_58 : decode cX12_cyclotomic 58 = .ok (.iconst 1, 1) := by decide +kernel
theorem dX12_cyclotomic_59 : decode cX12_cyclotomic 59 = .ok (.iadd, 1) := by decide +kernel
theorem dX12_cyclotomic_60 : decode cX12_cyclotomic 60 = .ok (.iload_n 3, 1) := by decide +kernel
theorem dX12_cyclotomic_61 : decode cX12_cyclotomic 61 = .ok (.iadd, 1) := by decide +kernel
theorem dX12_cyclotomic_62 : decode cX12_cyclotomic 62 = .ok (.iaload, 1) := by decide +kernel
theorem dX12_cyclotomic_63 : decode cX12_cyclotomic 63 = .ok (.i2l, 1) := by decide +kernel
theorem dX12_cyclotomic_64 : decode cX12_cyclotomic 64 = .ok (.lastore, 1) := by decide +kernel
theorem dX12_cyclotomic_65 : decode cX12_cyclotomic 65 = .ok (.iinc 3 1, 3) := by decide +kernel
theorem dX12_cyclotomic_68 : decode cX12_cyclotomic 68 = .ok (.goto (-29), 3) := by decide +kernel
theorem dX12_cyclotomic_71 : decode cX12_cyclotomic 71 = .ok (.aload_n 0, 1) := by decide +kernel
theorem dX12_cyclotomic_72 : decode cX12_cyclotomic 72 = .ok (.iload_n 2, 1) := by decide +kernel
theorem dX12_cyclotomic_73 : decode cX12_cyclotomic 73 = .ok (.iconst 5, 1) := by decide +kernel
theorem dX12_cyclotomic_74 : decode cX12_cyclotomic 74 = .ok (.invokevirtual 286, 3) := by decide +kernel
theorem dX12_cyclotomic_77 : decode cX12_cyclotomic 77 = .ok (.ireturn, 1) := by decide +kernel
theorem dX12_core_0 : decode cX12_core 0 = .ok (.aload_n 0, 1) := by decide +kernel
theorem dX12_core_1 : decode cX12_core 1 = .ok (.iconst 0, 1) := by decide +kernel
theorem dX12_core_2 : decode cX12_core 2 = .ok (.putfield 83, 3) := by decide +kernel
theorem dX12_core_5 : decode cX12_core 5 = .ok (.iload_n 1, 1) := by decide +kernel
theorem dX12_core_6 : decode cX12_core 6 = .ok (.invokestatic 277, 3) := by decide +kernel
theorem dX12_core_9 : decode cX12_core 9 = .ok (.ifCond .eq 10, 3) := by decide +kernel
theorem dX12_core_12 : decode cX12_core 12 = .ok (.iload_n 2, 1) := by decide +kernel
theorem dX12_core_13 : decode cX12_core 13 = .ok (.invokestatic 277, 3) := by decide +kernel
theorem dX12_core_16 : decode cX12_core 16 = .ok (.ifCond .ne 10, 3) := by decide +kernel
theorem dX12_core_19 : decode cX12_core 19 = .ok (.aload_n 0, 1) := by decide +kernel
theorem dX12_core_20 : decode cX12_core 20 = .ok (.bipush (-2), 2) := by decide +kernel
theorem dX12_core_22 : decode cX12_core 22 = .ok (.invokevirtual 96, 3) := by decide +kernel
theorem dX12_core_25 : decode cX12_core 25 = .ok (.ireturn, 1) := by decide +kernel
theorem dX12_core_26 : decode cX12_core 26 = .ok (.aload_n 0, 1) := by decide +kernel
theorem dX12_core_27 : decode cX12_core 27 = .ok (.iload_n 1, 1) := by decide +kernel
theorem dX12_core_28 : decode cX12_core 28 = .ok (.invokevirtual 295, 3) := by decide +kernel
theorem dX12_core_31 : decode cX12_core 31 = .ok (.aload_n 0, 1) := by decide +kernel
theorem dX12_core_32 : decode cX12_core 32 = .ok (.invokevirtual 172, 3) := by decide +kernel
theorem dX12_core_35 : decode cX12_core 35 = .ok (.aload_n 0, 1) := by decide +kernel
theorem dX12_core_36 : decode cX12_core 36 = .ok (.iload_n 2, 1) := by decide +kernel
theorem dX12_core_37 : decode cX12_core 37 = .ok (.bipush 6, 2) := by decide +kernel
theorem dX12_core_39 : decode cX12_core 39 = .ok (.invokevirtual 286, 3) := by decide +kernel
theorem dX12_core_42 : decode cX12_core 42 = .ok (.ireturn, 1) := by decide +kernel
theorem dX12_takeBox_0 : decode cX12_takeBox 0 = .ok (.aload_n 0, 1) := by decide +kernel
theorem dX12_takeBox_1 : decode cX12_takeBox 1 = .ok (.invokevirtual 116, 3) := by decide +kernel
theorem dX12_takeBox_4 : decode cX12_takeBox 4 = .ok (.iconst 0, 1) := by decide +kernel
theorem dX12_takeBox_5 : decode cX12_takeBox 5 = .ok (.istore_n 2, 1) := by decide +kernel
theorem dX12_takeBox_6 : decode cX12_takeBox 6 = .ok (.iload_n 2, 1) := by decide +kernel
theorem dX12_takeBox_7 : decode cX12_takeBox 7 = .ok (.iload_n 1, 1) := by decide +kernel
theorem dX12_takeBox_8 : decode cX12_takeBox 8 = .ok (.if_icmp .gt 22, 3) := by decide +kernel
theorem dX12_takeBox_11 : decode cX12_takeBox 11 = .ok (.aload_n 0, 1) := by decide +kernel
theorem dX12_takeBox_12 : decode cX12_takeBox 12 = .ok (.getfield 29, 3) := by decide +kernel
theorem dX12_takeBox_15 : decode cX12_takeBox 15 = .ok (.iload_n 2, 1) := by decide +kernel
theorem dX12_takeBox_16 : decode cX12_takeBox 16 = .ok (.aload_n 0, 1) := by decide +kernel
theorem dX12_takeBox_17 : decode cX12_takeBox 17 = .ok (.getfield 68, 3) := by decide +kernel
theorem dX12_takeBox_20 : decode cX12_takeBox 20 = .ok (.iload_n 2, 1) := by decide +kernel
theorem dX12_takeBox_21 : decode cX12_takeBox 21 = .ok (.iaload, 1) := by decide +kernel
theorem dX12_takeBox_22 : decode cX12_takeBox 22 = .ok (.i2l, 1) := by decide +kernel
theorem dX12_takeBox_23 : decode cX12_takeBox 23 = .ok (.lastore, 1) := by decide +kernel
theorem dX12_takeBox_24 : decode cX12_takeBox 24 = .ok (.iinc 2 1, 3) := by decide +kernel
theorem dX12_takeBox_27 : decode cX12_takeBox 27 = .ok (.goto (-21), 3) := by decide +kernel
theorem dX12_takeBox_30 : decode cX12_takeBox 30 = .ok (.aload_n 0, 1) := by decide +kernel
theorem dX12_takeBox_31 : decode cX12_takeBox 31 = .ok (.iload_n 1, 1) := by decide +kernel
theorem dX12_takeBox_32 : decode cX12_takeBox 32 = .ok (.putfield 113, 3) := by decide +kernel
theorem dX12_takeBox_35 : decode cX12_takeBox 35 = .ok (.return_, 1) := by decide +kernel
theorem dX12_layBox_0 : decode cX12_layBox 0 = .ok (.iload_n 1, 1) := by decide +kernel
theorem dX12_layBox_1 : decode cX12_layBox 1 = .ok (.istore 4, 2) := by decide +kernel
theorem dX12_layBox_3 : decode cX12_layBox 3 = .ok (.aload_n 0, 1) := by decide +kernel
theorem dX12_layBox_4 : decode cX12_layBox 4 = .ok (.getfield 68, 3) := by decide +kernel
theorem dX12_layBox_7 : decode cX12_layBox 7 = .ok (.iconst 0, 1) := by decide +kernel
theorem dX12_layBox_8 : decode cX12_layBox 8 = .ok (.iconst 1, 1) := by decide +kernel
theorem dX12_layBox_9 : decode cX12_layBox 9 = .ok (.iastore, 1) := by decide +kernel
theorem dX12_layBox_10 : decode cX12_layBox 10 = .ok (.aload_n 0, 1) := by decide +kernel
theorem dX12_layBox_11 : decode cX12_layBox 11 = .ok (.getfield 68, 3) := by decide +kernel
theorem dX12_layBox_14 : decode cX12_layBox 14 = .ok (.iload_n 2, 1) := by decide +kernel
theorem dX12_layBox_15 : decode cX12_layBox 15 = .ok (.iconst 1, 1) := by decide +kernel
theorem dX12_layBox_16 : decode cX12_layBox 16 = .ok (.iastore, 1) := by decide +kernel
theorem dX12_layBox_17 : decode cX12_layBox 17 = .ok (.iload_n 2, 1) := by decide +kernel
theorem dX12_layBox_18 : decode cX12_layBox 18 = .ok (.iconst 2, 1) := by decide +kernel
theorem dX12_layBox_19 : decode cX12_layBox 19 = .ok (.idiv, 1) := by decide +kernel
theorem dX12_layBox_20 : decode cX12_layBox 20 = .ok (.istore 5, 2) := by decide +kernel
theorem dX12_layBox_22 : decode cX12_layBox 22 = .ok (.iload 5, 2) := by decide +kernel
theorem dX12_layBox_24 : decode cX12_layBox 24 = .ok (.ifCond .le 52, 3) := by decide +kernel
theorem dX12_layBox_27 : decode cX12_layBox 27 = .ok (.aload_n 0, 1) := by decide +kernel
theorem dX12_layBox_28 : decode cX12_layBox 28 = .ok (.getfield 68, 3) := by decide +kernel
theorem dX12_layBox_31 : decode cX12_layBox 31 = .ok (.iload 5, 2) := by decide +kernel
theorem dX12_layBox_33 : decode cX12_layBox 33 = .ok (.iload 4, 2) := by decide +kernel
theorem dX12_layBox_35 : decode cX12_layBox 35 = .ok (.iconst 2, 1) := by decide +kernel
theorem dX12_layBox_36 : decode cX12_layBox 36 = .ok (.iload_n 3, 1) := by decide +kernel
theorem dX12_layBox_37 : decode cX12_layBox 37 = .ok (.imul, 1) := by decide +kernel
theorem dX12_layBox_38 : decode cX12_layBox 38 = .ok (.iconst 1, 1) := by decide +kernel
theorem dX12_layBox_39 : decode cX12_layBox 39 = .ok (.iadd, 1) := by decide +kernel
theorem dX12_layBox_40 : decode cX12_layBox 40 = .ok (.irem, 1) := by decide +kernel
theorem dX12_layBox_41 : decode cX12_layBox 41 = .ok (.iload_n 3, 1) := by decide +kernel
theorem dX12_layBox_42 : decode cX12_layBox 42 = .ok (.isub, 1) := by decide +kernel
theorem dX12_layBox_43 : decode cX12_layBox 43 = .ok (.iastore, 1) := by decide +kernel
theorem dX12_layBox_44 : decode cX12_layBox 44 = .ok (.aload_n 0, 1) := by decide +kernel
theorem dX12_layBox_45 : decode cX12_layBox 45 = .ok (.getfield 68, 3) := by decide +kernel
theorem dX12_layBox_48 : decode cX12_layBox 48 = .ok (.iload_n 2, 1) := by decide +kernel
theorem dX12_layBox_49 : decode cX12_layBox 49 = .ok (.iload 5, 2) := by decide +kernel
theorem dX12_layBox_51 : decode cX12_layBox 51 = .ok (.isub, 1) := by decide +kernel
theorem dX12_layBox_52 : decode cX12_layBox 52 = .ok (.aload_n 0, 1) := by decide +kernel
theorem dX12_layBox_53 : decode cX12_layBox 53 = .ok (.getfield 68, 3) := by decide +kernel
theorem dX12_layBox_56 : decode cX12_layBox 56 = .ok (.iload 5, 2) := by decide +kernel
theorem dX12_layBox_58 : decode cX12_layBox 58 = .ok (.iaload, 1) := by decide +kernel
theorem dX12_layBox_59 : decode cX12_layBox 59 = .ok (.iastore, 1) := by decide +kernel
theorem dX12_layBox_60 : decode cX12_layBox 60 = .ok (.iload 4, 2) := by decide +kernel
theorem dX12_layBox_62 : decode cX12_layBox 62 = .ok (.iconst 2, 1) := by decide +kernel
theorem dX12_layBox_63 : decode cX12_layBox 63 = .ok (.iload_n 3, 1) := by decide +kernel
theorem dX12_layBox_64 : decode cX12_layBox 64 = .ok (.imul, 1) := by decide +kernel
theorem dX12_layBox_65 : decode cX12_layBox 65 = .ok (.iconst 1, 1) := by decide +kernel
theorem dX12_layBox_66 : decode cX12_layBox 66 = .ok (.iadd, 1) := by decide +kernel
theorem dX12_layBox_67 : decode cX12_layBox 67 = .ok (.idiv, 1) := by decide +kernel
theorem dX12_layBox_68 : decode cX12_layBox 68 = .ok (.istore 4, 2) := by decide +kernel
theorem dX12_layBox_70 : decode cX12_layBox 70 = .ok (.iinc 5 (-1), 3) := by decide +kernel
theorem dX12_layBox_73 : decode cX12_layBox 73 = .ok (.goto (-51), 3) := by decide +kernel
theorem dX12_layBox_76 : decode cX12_layBox 76 = .ok (.return_, 1) := by decide +kernel
theorem dX12_looks_0 : decode cX12_looks 0 = .ok (.aload_n 0, 1) := by decide +kernel
theorem dX12_looks_1 : decode cX12_looks 1 = .ok (.getfield 13, 3) := by decide +kernel
theorem dX12_looks_4 : decode cX12_looks 4 = .ok (.bipush 114, 2) := by decide +kernel
theorem dX12_looks_6 : decode cX12_looks 6 = .ok (.dup2, 1) := by decide +kernel
theorem dX12_looks_7 : decode cX12_looks 7 = .ok (.iaload, 1) := by decide +kernel
theorem dX12_looks_8 : decode cX12_looks 8 = .ok (.iconst 1, 1) := by decide +kernel
theorem dX12_looks_9 : decode cX12_looks 9 = .ok (.iadd, 1) := by decide +kernel
theorem dX12_looks_10 : decode cX12_looks 10 = .ok (.iastore, 1) := by decide +kernel
theorem dX12_looks_11 : decode cX12_looks 11 = .ok (.aload_n 0, 1) := by decide +kernel
theorem dX12_looks_12 : decode cX12_looks 12 = .ok (.iload_n 1, 1) := by decide +kernel
theorem dX12_looks_13 : decode cX12_looks 13 = .ok (.invokevirtual 306, 3) := by decide +kernel
theorem dX12_looks_16 : decode cX12_looks 16 = .ok (.aload_n 0, 1) := by decide +kernel
theorem dX12_looks_17 : decode cX12_looks 17 = .ok (.invokevirtual 309, 3) := by decide +kernel
theorem dX12_looks_20 : decode cX12_looks 20 = .ok (.ifCond .eq 15, 3) := by decide +kernel
theorem dX12_looks_23 : decode cX12_looks 23 = .ok (.aload_n 0, 1) := by decide +kernel
theorem dX12_looks_24 : decode cX12_looks 24 = .ok (.getfield 13, 3) := by decide +kernel
theorem dX12_looks_27 : decode cX12_looks 27 = .ok (.bipush 115, 2) := by decide +kernel
theorem dX12_looks_29 : decode cX12_looks 29 = .ok (.dup2, 1) := by decide +kernel
theorem dX12_looks_30 : decode cX12_looks 30 = .ok (.iaload, 1) := by decide +kernel
theorem dX12_looks_31 : decode cX12_looks 31 = .ok (.iconst 1, 1) := by decide +kernel
theorem dX12_looks_32 : decode cX12_looks 32 = .ok (.iadd, 1) := by decide +kernel
theorem dX12_looks_33 : decode cX12_looks 33 = .ok (.iastore, 1) := by decide +kernel
theorem dX12_looks_34 : decode cX12_looks 34 = .ok (.return_, 1) := by decide +kernel
theorem dX12_looks_35 : decode cX12_looks 35 = .ok (.aload_n 0, 1) := by decide +kernel
theorem dX12_looks_36 : decode cX12_looks 36 = .ok (.iload_n 1, 1) := by decide +kernel
theorem dX12_looks_37 : decode cX12_looks 37 = .ok (.invokevirtual 306, 3) := by decide +kernel
theorem dX12_looks_40 : decode cX12_looks 40 = .ok (.aload_n 0, 1) := by decide +kernel
theorem dX12_looks_41 : decode cX12_looks 41 = .ok (.invokevirtual 303, 3) := by decide +kernel
theorem dX12_looks_44 : decode cX12_looks 44 = .ok (.iload_n 2, 1) := by decide +kernel
theorem dX12_looks_45 : decode cX12_looks 45 = .ok (.aload_n 0, 1) := by decide +kernel
theorem dX12_looks_46 : decode cX12_looks 46 = .ok (.getfield 196, 3) := by decide +kernel
theorem dX12_looks_49 : decode cX12_looks 49 = .ok (.if_icmp .ge 7, 3) := by decide +kernel
theorem dX12_looks_52 : decode cX12_looks 52 = .ok (.iload_n 2, 1) := by decide +kernel
theorem dX12_looks_53 : decode cX12_looks 53 = .ok (.goto 7, 3) := by decide +kernel
theorem dX12_looks_56 : decode cX12_looks 56 = .ok (.aload_n 0, 1) := by decide +kernel
theorem dX12_looks_57 : decode cX12_looks 57 = .ok (.getfield 196, 3) := by decide +kernel
theorem dX12_looks_60 : decode cX12_looks 60 = .ok (.istore 4, 2) := by decide +kernel
theorem dX12_looks_62 : decode cX12_looks 62 = .ok (.aload_n 0, 1) := by decide +kernel
theorem dX12_looks_63 : decode cX12_looks 63 = .ok (.iload 4, 2) := by decide +kernel
theorem dX12_looks_65 : decode cX12_looks 65 = .ok (.invokevirtual 243, 3) := by decide +kernel
theorem dX12_looks_68 : decode cX12_looks 68 = .ok (.aload_n 0, 1) := by decide +kernel
theorem dX12_looks_69 : decode cX12_looks 69 = .ok (.iload 4, 2) := by decide +kernel
theorem dX12_looks_71 : decode cX12_looks 71 = .ok (.iload_n 3, 1) := by decide +kernel
theorem dX12_looks_72 : decode cX12_looks 72 = .ok (.invokevirtual 246, 3) := by decide +kernel
theorem dX12_looks_75 : decode cX12_looks 75 = .ok (.ifCond .ne 4, 3) := by decide +kernel
theorem dX12_looks_78 : decode cX12_looks 78 = .ok (.return_, 1) := by decide +kernel
theorem dX12_looks_79 : decode cX12_looks 79 = .ok (.aload_n 0, 1) := by decide +kernel
theorem dX12_looks_80 : decode cX12_looks 80 = .ok (.getfield 13, 3) := by decide +kernel
theorem dX12_looks_83 : decode cX12_looks 83 = .ok (.bipush 113, 2) := by decide +kernel
theorem dX12_looks_85 : decode cX12_looks 85 = .ok (.dup2, 1) := by decide +kernel
theorem dX12_looks_86 : decode cX12_looks 86 = .ok (.iaload, 1) := by decide +kernel
theorem dX12_looks_87 : decode cX12_looks 87 = .ok (.iconst 1, 1) := by decide +kernel
theorem dX12_looks_88 : decode cX12_looks 88 = .ok (.iadd, 1) := by decide +kernel
theorem dX12_looks_89 : decode cX12_looks 89 = .ok (.iastore, 1) := by decide +kernel
theorem dX12_looks_90 : decode cX12_looks 90 = .ok (.aload_n 0, 1) := by decide +kernel
theorem dX12_looks_91 : decode cX12_looks 91 = .ok (.getfield 13, 3) := by decide +kernel
theorem dX12_looks_94 : decode cX12_looks 94 = .ok (.bipush 112, 2) := by decide +kernel
theorem dX12_looks_96 : decode cX12_looks 96 = .ok (.iaload, 1) := by decide +kernel
theorem dX12_looks_97 : decode cX12_looks 97 = .ok (.bipush 30, 2) := by decide +kernel
theorem dX12_looks_99 : decode cX12_looks 99 = .ok (.if_icmp .ge 126, 3) := by decide +kernel
theorem dX12_looks_102 : decode cX12_looks 102 = .ok (.bipush 116, 2) := by decide +kernel
theorem dX12_looks_104 : decode cX12_looks 104 = .ok (.bipush 17, 2) := by decide +kernel
theorem dX12_looks_106 : decode cX12_looks 106 = .ok (.aload_n 0, 1) := by decide +kernel
theorem dX12_looks_107 : decode cX12_looks 107 = .ok (.getfield 13, 3) := by decide +kernel
theorem dX12_looks_110 : decode cX12_looks 110 = .ok (.bipush 112, 2) := by decide +kernel
theorem dX12_looks_112 : decode cX12_looks 112 = .ok (.iaload, 1) := by decide +kernel
theorem dX12_looks_113 : decode cX12_looks 113 = .ok (.imul, 1) := by decide +kernel
theorem dX12_looks_114 : decode cX12_looks 114 = .ok (.iadd, 1) := by decide +kernel
theorem dX12_looks_115 : decode cX12_looks 115 = .ok (.istore 5, 2) := by decide +kernel
theorem dX12_looks_117 : decode cX12_looks 117 = .ok (.aload_n 0, 1) := by decide +kernel
theorem dX12_looks_118 : decode cX12_looks 118 = .ok (.getfield 13, 3) := by decide +kernel
theorem dX12_looks_121 : decode cX12_looks 121 = .ok (.iload 5, 2) := by decide +kernel
theorem dX12_looks_123 : decode cX12_looks 123 = .ok (.iload_n 1, 1) := by decide +kernel
theorem dX12_looks_124 : decode cX12_looks 124 = .ok (.iastore, 1) := by decide +kernel
theorem dX12_looks_125 : decode cX12_looks 125 = .ok (.iconst 0, 1) := by decide +kernel
theorem dX12_looks_126 : decode cX12_looks 126 = .ok (.istore 6, 2) := by decide +kernel
theorem dX12_looks_128 : decode cX12_looks 128 = .ok (.iload 6, 2) := by decide +kernel
theorem dX12_looks_130 : decode cX12_looks 130 = .ok (.bipush 12, 2) := by decide +kernel
theorem dX12_looks_132 : decode cX12_looks 132 = .ok (.if_icmp .gt 38, 3) := by decide +kernel
theorem dX12_looks_135 : decode cX12_looks 135 = .ok (.aload_n 0, 1) := by decide +kernel
theorem dX12_looks_136 : decode cX12_looks 136 = .ok (.getfield 13, 3) := by decide +kernel
theorem dX12_looks_139 : decode cX12_looks 139 = .ok (.iload 5, 2) := by decide +kernel
theorem dX12_looks_141 : decode cX12_looks 141 = .ok (.iconst 1, 1) := by decide +kernel
theorem dX12_looks_142 : decode cX12_looks 142 = .ok (.iadd, 1) := by decide +kernel
theorem dX12_looks_143 : decode cX12_looks 143 = .ok (.iload 6, 2) := by decide +kernel
theorem dX12_looks_145 : decode cX12_looks 145 = .ok (.iadd, 1) := by decide +kernel
theorem dX12_looks_146 : decode cX12_looks 146 = .ok (.iload 6, 2) := by decide +kernel
theorem dX12_looks_148 : decode cX12_looks 148 = .ok (.iload_n 1, 1) := by decide +kernel
theorem dX12_looks_149 : decode cX12_looks 149 = .ok (.if_icmp .gt 13, 3) := by decide +kernel
theorem dX12_looks_152 : decode cX12_looks 152 = .ok (.aload_n 0, 1) := by decide +kernel
theorem dX12_looks_153 : decode cX12_looks 153 = .ok (.getfield 68, 3) := by decide +kernel
theorem dX12_looks_156 : decode cX12_looks 156 = .ok (.iload 6, 2) := by decide +kernel
theorem dX12_looks_158 : decode cX12_looks 158 = .ok (.iaload, 1) := by decide +kernel
theorem dX12_looks_159 : decode cX12_looks 159 = .ok (.goto 4, 3) := by decide +kernel
theorem dX12_looks_162 : decode cX12_looks 162 = .ok (.iconst 0, 1) := by decide +kernel
theorem dX12_looks_163 : decode cX12_looks 163 = .ok (.iastore, 1) := by decide +kernel
theorem dX12_looks_164 : decode cX12_looks 164 = .ok (.iinc 6 1, 3) := by decide +kernel
theorem dX12_looks_167 : decode cX12_looks 167 = .ok (.goto (-39), 3) := by decide +kernel
theorem dX12_looks_170 : decode cX12_looks 170 = .ok (.aload_n 0, 1) := by decide +kernel
theorem dX12_looks_171 : decode cX12_looks 171 = .ok (.getfield 13, 3) := by decide +kernel
theorem dX12_looks_174 : decode cX12_looks 174 = .ok (.iload 5, 2) := by decide +kernel
theorem dX12_looks_176 : decode cX12_looks 176 = .ok (.bipush 14, 2) := by decide +kernel
theorem dX12_looks_178 : decode cX12_looks 178 = .ok (.iadd, 1) := by decide +kernel
theorem dX12_looks_179 : decode cX12_looks 179 = .ok (.aload_n 0, 1) := by decide +kernel
theorem dX12_looks_180 : decode cX12_looks 180 = .ok (.iload 4, 2) := by decide +kernel
theorem dX12_looks_182 : decode cX12_looks 182 = .ok (.invokevirtual 312, 3) := by decide +kernel
theorem dX12_looks_185 : decode cX12_looks 185 = .ok (.iastore, 1) := by decide +kernel
theorem dX12_looks_186 : decode cX12_looks 186 = .ok (.aload_n 0, 1) := by decide +kernel
theorem dX12_looks_187 : decode cX12_looks 187 = .ok (.getfield 13, 3) := by decide +kernel
theorem dX12_looks_190 : decode cX12_looks 190 = .ok (.iload 5, 2) := by decide +kernel
theorem dX12_looks_192 : decode cX12_looks 192 = .ok (.bipush 15, 2) := by decide +kernel
theorem dX12_looks_194 : decode cX12_looks 194 = .ok (.iadd, 1) := by decide +kernel
theorem dX12_looks_195 : decode cX12_looks 195 = .ok (.aload_n 0, 1) := by decide +kernel
theorem dX12_looks_196 : decode cX12_looks 196 = .ok (.iload 4, 2) := by decide +kernel
theorem dX12_looks_198 : decode cX12_looks 198 = .ok (.invokevirtual 315, 3) := by decide +kernel
theorem dX12_looks_201 : decode cX12_looks 201 = .ok (.iastore, 1) := by decide +kernel
theorem dX12_looks_202 : decode cX12_looks 202 = .ok (.aload_n 0, 1) := by decide +kernel
theorem dX12_looks_203 : decode cX12_looks 203 = .ok (.getfield 13, 3) := by decide +kernel
theorem dX12_looks_206 : decode cX12_looks 206 = .ok (.iload 5, 2) := by decide +kernel
theorem dX12_looks_208 : decode cX12_looks 208 = .ok (.bipush 16, 2) := by decide +kernel
theorem dX12_looks_210 : decode cX12_looks 210 = .ok (.iadd, 1) := by decide +kernel
theorem dX12_looks_211 : decode cX12_looks 211 = .ok (.iload 4, 2) := by decide +kernel
theorem dX12_looks_213 : decode cX12_looks 213 = .ok (.iastore, 1) := by decide +kernel
theorem dX12_looks_214 : decode cX12_looks 214 = .ok (.aload_n 0, 1) := by decide +kernel
theorem dX12_looks_215 : decode cX12_looks 215 = .ok (.getfield 13, 3) := by decide +kernel
theorem dX12_looks_218 : decode cX12_looks 218 = .ok (.bipush 112, 2) := by decide +kernel
theorem dX12_looks_220 : decode cX12_looks 220 = .ok (.dup2, 1) := by decide +kernel
theorem dX12_looks_221 : decode cX12_looks 221 = .ok (.iaload, 1) := by decide +kernel
theorem dX12_looks_222 : decode cX12_looks 222 = .ok (.iconst 1, 1) := by decide +kernel
theorem dX12_looks_223 : decode cX12_looks 223 = .ok (.iadd, 1) := by decide +kernel
theorem dX12_looks_224 : decode cX12_looks 224 = .ok (.iastore, 1) := by decide +kernel
theorem dX12_looks_225 : decode cX12_looks 225 = .ok (.return_, 1) := by decide +kernel
theorem dX12_search_0 : decode cX12_search 0 = .ok (.aload_n 0, 1) := by decide +kernel
theorem dX12_search_1 : decode cX12_search 1 = .ok (.iconst 0, 1) := by decide +kernel
theorem dX12_search_2 : decode cX12_search 2 = .ok (.putfield 83, 3) := by decide +kernel
theorem dX12_search_5 : decode cX12_search 5 = .ok (.iload_n 1, 1) := by decide +kernel
theorem dX12_search_6 : decode cX12_search 6 = .ok (.i2l, 1) := by decide +kernel
theorem dX12_search_7 : decode cX12_search 7 = .ok (.ldc2_w 318, 3) := by decide +kernel
theorem dX12_search_10 : decode cX12_search 10 = .ok (.ldc2_w 320, 3) := by decide +kernel
theorem dX12_search_13 : decode cX12_search 13 = .ok (.invokestatic 103, 3) := by decide +kernel
theorem dX12_search_16 : decode cX12_search 16 = .ok (.ifCond .eq 48, 3) := by decide +kernel
theorem dX12_search_19 : decode cX12_search 19 = .ok (.iload_n 1, 1) := by decide +kernel
theorem dX12_search_20 : decode cX12_search 20 = .ok (.iconst 2, 1) := by decide +kernel
theorem dX12_search_21 : decode cX12_search 21 = .ok (.irem, 1) := by decide +kernel
theorem dX12_search_22 : decode cX12_search 22 = .ok (.ifCond .ne 42, 3) := by decide +kernel
theorem dX12_search_25 : decode cX12_search 25 = .ok (.iload_n 2, 1) := by decide +kernel
theorem dX12_search_26 : decode cX12_search 26 = .ok (.i2l, 1) := by decide +kernel
theorem dX12_search_27 : decode cX12_search 27 = .ok (.lconst 1, 1) := by decide +kernel
theorem dX12_search_28 : decode cX12_search 28 = .ok (.ldc2_w 322, 3) := by decide +kernel
theorem dX12_search_31 : decode cX12_search 31 = .ok (.invokestatic 103, 3) := by decide +kernel
theorem dX12_search_34 : decode cX12_search 34 = .ok (.ifCond .eq 30, 3) := by decide +kernel
theorem dX12_search_37 : decode cX12_search 37 = .ok (.iload_n 3, 1) := by decide +kernel
theorem dX12_search_38 : decode cX12_search 38 = .ok (.i2l, 1) := by decide +kernel
theorem dX12_search_39 : decode cX12_search 39 = .ok (.lconst 0, 1) := by decide +kernel
theorem dX12_search_40 : decode cX12_search 40 = .ok (.ldc2_w 324, 3) := by decide +kernel
theorem dX12_search_43 : decode cX12_search 43 = .ok (.invokestatic 103, 3) := by decide +kernel
theorem dX12_search_46 : decode cX12_search 46 = .ok (.ifCond .eq 18, 3) := by decide +kernel
theorem dX12_search_49 : decode cX12_search 49 = .ok (.iload 4, 2) := by decide +kernel
theorem dX12_search_51 : decode cX12_search 51 = .ok (.i2l, 1) := by decide +kernel
theorem dX12_search_52 : decode cX12_search 52 = .ok (.ldc2_w 212, 3) := by decide +kernel
theorem dX12_search_55 : decode cX12_search 55 = .ok (.ldc2_w 130, 3) := by decide +kernel
theorem dX12_search_58 : decode cX12_search 58 = .ok (.invokestatic 103, 3) := by decide +kernel
theorem dX12_search_61 : decode cX12_search 61 = .ok (.ifCond .ne 9, 3) := by decide +kernel
theorem dX12_search_64 : decode cX12_search 64 = .ok (.aload_n 0, 1) := by decide +kernel
theorem dX12_search_65 : decode cX12_search 65 = .ok (.iconst (-1), 1) := by decide +kernel
theorem dX12_search_66 : decode cX12_search 66 = .ok (.invokevirtual 96, 3) := by decide +kernel
theorem dX12_search_69 : decode cX12_search 69 = .ok (.ireturn, 1) := by decide +kernel
theorem dX12_search_70 : decode cX12_search 70 = .ok (.iconst 1, 1) := by decide +kernel
theorem dX12_search_71 : decode cX12_search 71 = .ok (.istore 5, 2) := by decide +kernel
theorem dX12_search_73 : decode cX12_search 73 = .ok (.iconst 0, 1) := by decide +kernel
theorem dX12_search_74 : decode cX12_search 74 = .ok (.istore 6, 2) := by decide +kernel
theorem dX12_search_76 : decode cX12_search 76 = .ok (.iload 6, 2) := by decide +kernel
theorem dX12_search_78 : decode cX12_search 78 = .ok (.iload_n 1, 1) := by decide +kernel
theorem dX12_search_79 : decode cX12_search 79 = .ok (.iconst 2, 1) := by decide +kernel
theorem dX12_search_80 : decode cX12_search 80 = .ok (.idiv, 1) := by decide +kernel
theorem dX12_search_81 : decode cX12_search 81 = .ok (.if_icmp .ge 19, 3) := by decide +kernel
theorem dX12_search_84 : decode cX12_search 84 = .ok (.iload 5, 2) := by decide +kernel
theorem dX12_search_86 : decode cX12_search 86 = .ok (.iconst 2, 1) := by decide +kernel
theorem dX12_search_87 : decode cX12_search 87 = .ok (.iload_n 2, 1) := by decide +kernel
theorem dX12_search_88 : decode cX12_search 88 = .ok (.imul, 1) := by decide +kernel
theorem dX12_search_89 : decode cX12_search 89 = .ok (.iconst 1, 1) := by decide +kernel
theorem dX12_search_90 : decode cX12_search 90 = .ok (.iadd, 1) := by decide +kernel
theorem dX12_search_91 : decode cX12_search 91 = .ok (.imul, 1) := by decide +kernel
theorem dX12_search_92 : decode cX12_search 92 = .ok (.istore 5, 2) := by decide +kernel
theorem dX12_search_94 : decode cX12_search 94 = .ok (.iinc 6 1, 3) := by decide +kernel
theorem dX12_search_97 : decode cX12_search 97 = .ok (.goto (-21), 3) := by decide +kernel
theorem dX12_search_100 : decode cX12_search 100 = .ok (.iload 5, 2) := by decide +kernel
theorem dX12_search_102 : decode cX12_search 102 = .ok (.sipush 3125, 3) := by decide +kernel
theorem dX12_search_105 : decode cX12_search 105 = .ok (.if_icmp .le 10, 3) := by decide +kernel
theorem dX12_search_108 : decode cX12_search 108 = .ok (.aload_n 0, 1) := by decide +kernel
theorem dX12_search_109 : decode cX12_search 109 = .ok (.bipush (-4), 2) := by decide +kernel
theorem dX12_search_111 : decode cX12_search 111 = .ok (.invokevirtual 96, 3) := by decide +kernel
theorem dX12_search_114 : decode cX12_search 114 = .ok (.ireturn, 1) := by decide +kernel
theorem dX12_search_115 : decode cX12_search 115 = .ok (.aload_n 0, 1) := by decide +kernel
theorem dX12_search_116 : decode cX12_search 116 = .ok (.bipush 7, 2) := by decide +kernel
theorem dX12_search_118 : decode cX12_search 118 = .ok (.invokevirtual 139, 3) := by decide +kernel
theorem dX12_search_121 : decode cX12_search 121 = .ok (.aload_n 0, 1) := by decide +kernel
theorem dX12_search_122 : decode cX12_search 122 = .ok (.getfield 13, 3) := by decide +kernel
theorem dX12_search_125 : decode cX12_search 125 = .ok (.bipush 112, 2) := by decide +kernel
theorem dX12_search_127 : decode cX12_search 127 = .ok (.iconst 0, 1) := by decide +kernel
theorem dX12_search_128 : decode cX12_search 128 = .ok (.iastore, 1) := by decide +kernel
theorem dX12_search_129 : decode cX12_search 129 = .ok (.aload_n 0, 1) := by decide +kernel
theorem dX12_search_130 : decode cX12_search 130 = .ok (.getfield 13, 3) := by decide +kernel
theorem dX12_search_133 : decode cX12_search 133 = .ok (.bipush 113, 2) := by decide +kernel
theorem dX12_search_135 : decode cX12_search 135 = .ok (.iconst 0, 1) := by decide +kernel
theorem dX12_search_136 : decode cX12_search 136 = .ok (.iastore, 1) := by decide +kernel
theorem dX12_search_137 : decode cX12_search 137 = .ok (.aload_n 0, 1) := by decide +kernel
theorem dX12_search_138 : decode cX12_search 138 = .ok (.getfield 13, 3) := by decide +kernel
theorem dX12_search_141 : decode cX12_search 141 = .ok (.bipush 114, 2) := by decide +kernel
theorem dX12_search_143 : decode cX12_search 143 = .ok (.iconst 0, 1) := by decide +kernel
theorem dX12_search_144 : decode cX12_search 144 = .ok (.iastore, 1) := by decide +kernel
theorem dX12_search_145 : decode cX12_search 145 = .ok (.aload_n 0, 1) := by decide +kernel
theorem dX12_search_146 : decode cX12_search 146 = .ok (.getfield 13, 3) := by decide +kernel
theorem dX12_search_149 : decode cX12_search 149 = .ok (.bipush 115, 2) := by decide +kernel
theorem dX12_search_151 : decode cX12_search 151 = .ok (.iconst 0, 1) := by decide +kernel
theorem dX12_search_152 : decode cX12_search 152 = .ok (.iastore, 1) := by decide +kernel
theorem dX12_search_153 : decode cX12_search 153 = .ok (.iconst 0, 1) := by decide +kernel
theorem dX12_search_154 : decode cX12_search 154 = .ok (.istore 6, 2) := by decide +kernel
theorem dX12_search_156 : decode cX12_search 156 = .ok (.iload 6, 2) := by decide +kernel
theorem dX12_search_158 : decode cX12_search 158 = .ok (.iload 5, 2) := by decide +kernel
theorem dX12_search_160 : decode cX12_search 160 = .ok (.if_icmp .ge 25, 3) := by decide +kernel
theorem dX12_search_163 : decode cX12_search 163 = .ok (.aload_n 0, 1) := by decide +kernel
theorem dX12_search_164 : decode cX12_search 164 = .ok (.iload 6, 2) := by decide +kernel
theorem dX12_search_166 : decode cX12_search 166 = .ok (.iload_n 1, 1) := by decide +kernel
theorem dX12_search_167 : decode cX12_search 167 = .ok (.iload_n 2, 1) := by decide +kernel
theorem dX12_search_168 : decode cX12_search 168 = .ok (.invokevirtual 326, 3) := by decide +kernel
theorem dX12_search_171 : decode cX12_search 171 = .ok (.aload_n 0, 1) := by decide +kernel
theorem dX12_search_172 : decode cX12_search 172 = .ok (.iload_n 1, 1) := by decide +kernel
theorem dX12_search_173 : decode cX12_search 173 = .ok (.iload_n 3, 1) := by decide +kernel
theorem dX12_search_174 : decode cX12_search 174 = .ok (.iload 4, 2) := by decide +kernel
theorem dX12_search_176 : decode cX12_search 176 = .ok (.invokevirtual 329, 3) := by decide +kernel
theorem dX12_search_179 : decode cX12_search 179 = .ok (.iinc 6 1, 3) := by decide +kernel
theorem dX12_search_182 : decode cX12_search 182 = .ok (.goto (-26), 3) := by decide +kernel
theorem dX12_search_185 : decode cX12_search 185 = .ok (.aload_n 0, 1) := by decide +kernel
theorem dX12_search_186 : decode cX12_search 186 = .ok (.aload_n 0, 1) := by decide +kernel
theorem dX12_search_187 : decode cX12_search 187 = .ok (.getfield 13, 3) := by decide +kernel
theorem dX12_search_190 : decode cX12_search 190 = .ok (.bipush 113, 2) := by decide +kernel
theorem dX12_search_192 : decode cX12_search 192 = .ok (.iaload, 1) := by decide +kernel
theorem dX12_search_193 : decode cX12_search 193 = .ok (.invokevirtual 100, 3) := by decide +kernel
theorem dX12_search_196 : decode cX12_search 196 = .ok (.ireturn, 1) := by decide +kernel
theorem dX12_isFound_0 : decode cX12_isFound 0 = .ok (.iload_n 1, 1) := by decide +kernel
theorem dX12_isFound_1 : decode cX12_isFound 1 = .ok (.i2l, 1) := by decide +kernel
theorem dX12_isFound_2 : decode cX12_isFound 2 = .ok (.lconst 0, 1) := by decide +kernel
theorem dX12_isFound_3 : decode cX12_isFound 3 = .ok (.aload_n 0, 1) := by decide +kernel
theorem dX12_isFound_4 : decode cX12_isFound 4 = .ok (.getfield 13, 3) := by decide +kernel
theorem dX12_isFound_7 : decode cX12_isFound 7 = .ok (.bipush 112, 2) := by decide +kernel
theorem dX12_isFound_9 : decode cX12_isFound 9 = .ok (.iaload, 1) := by decide +kernel
theorem dX12_isFound_10 : decode cX12_isFound 10 = .ok (.i2l, 1) := by decide +kernel
theorem dX12_isFound_11 : decode cX12_isFound 11 = .ok (.lconst 1, 1) := by decide +kernel
theorem dX12_isFound_12 : decode cX12_isFound 12 = .ok (.lsub, 1) := by decide +kernel
theorem dX12_isFound_13 : decode cX12_isFound 13 = .ok (.invokestatic 103, 3) := by decide +kernel
theorem dX12_isFound_16 : decode cX12_isFound 16 = .ok (.ireturn, 1) := by decide +kernel
theorem dX12_take__0 : decode cX12_take_ 0 = .ok (.aload_n 0, 1) := by decide +kernel
theorem dX12_take__1 : decode cX12_take_ 1 = .ok (.iconst 0, 1) := by decide +kernel
theorem dX12_take__2 : decode cX12_take_ 2 = .ok (.putfield 83, 3) := by decide +kernel
theorem dX12_take__5 : decode cX12_take_ 5 = .ok (.aload_n 0, 1) := by decide +kernel
theorem dX12_take__6 : decode cX12_take_ 6 = .ok (.iload_n 1, 1) := by decide +kernel
theorem dX12_take__7 : decode cX12_take_ 7 = .ok (.invokevirtual 332, 3) := by decide +kernel
theorem dX12_take__10 : decode cX12_take_ 10 = .ok (.ifCond .eq 10, 3) := by decide +kernel
theorem dX12_take__13 : decode cX12_take_ 13 = .ok (.iload_n 2, 1) := by decide +kernel
theorem dX12_take__14 : decode cX12_take_ 14 = .ok (.invokestatic 277, 3) := by decide +kernel
theorem dX12_take__17 : decode cX12_take_ 17 = .ok (.ifCond .ne 10, 3) := by decide +kernel
theorem dX12_take__20 : decode cX12_take_ 20 = .ok (.aload_n 0, 1) := by decide +kernel
theorem dX12_take__21 : decode cX12_take_ 21 = .ok (.bipush (-2), 2) := by decide +kernel
theorem dX12_take__23 : decode cX12_take_ 23 = .ok (.invokevirtual 96, 3) := by decide +kernel
theorem dX12_take__26 : decode cX12_take_ 26 = .ok (.ireturn, 1) := by decide +kernel
theorem dX12_take__27 : decode cX12_take_ 27 = .ok (.aload_n 0, 1) := by decide +kernel
theorem dX12_take__28 : decode cX12_take_ 28 = .ok (.invokevirtual 116, 3) := by decide +kernel
theorem dX12_take__31 : decode cX12_take_ 31 = .ok (.iconst 0, 1) := by decide +kernel
theorem dX12_take__32 : decode cX12_take_ 32 = .ok (.istore_n 3, 1) := by decide +kernel
theorem dX12_take__33 : decode cX12_take_ 33 = .ok (.iload_n 3, 1) := by decide +kernel
theorem dX12_take__34 : decode cX12_take_ 34 = .ok (.bipush 12, 2) := by decide +kernel
theorem dX12_take__36 : decode cX12_take_ 36 = .ok (.if_icmp .gt 32, 3) := by decide +kernel
theorem dX12_take__39 : decode cX12_take_ 39 = .ok (.aload_n 0, 1) := by decide +kernel
theorem dX12_take__40 : decode cX12_take_ 40 = .ok (.getfield 29, 3) := by decide +kernel
theorem dX12_take__43 : decode cX12_take_ 43 = .ok (.iload_n 3, 1) := by decide +kernel
theorem dX12_take__44 : decode cX12_take_ 44 = .ok (.aload_n 0, 1) := by decide +kernel
theorem dX12_take__45 : decode cX12_take_ 45 = .ok (.getfield 13, 3) := by decide +kernel
theorem dX12_take__48 : decode cX12_take_ 48 = .ok (.bipush 116, 2) := by decide +kernel
theorem dX12_take__50 : decode cX12_take_ 50 = .ok (.bipush 17, 2) := by decide +kernel
theorem dX12_take__52 : decode cX12_take_ 52 = .ok (.iload_n 1, 1) := by decide +kernel
theorem dX12_take__53 : decode cX12_take_ 53 = .ok (.imul, 1) := by decide +kernel
theorem dX12_take__54 : decode cX12_take_ 54 = .ok (.iadd, 1) := by decide +kernel
theorem dX12_take__55 : decode cX12_take_ 55 = .ok (.iconst 1, 1) := by decide +kernel
theorem dX12_take__56 : decode cX12_take_ 56 = .ok (.iadd, 1) := by decide +kernel
theorem dX12_take__57 : decode cX12_take_ 57 = .ok (.iload_n 3, 1) := by decide +kernel
theorem dX12_take__58 : decode cX12_take_ 58 = .ok (.iadd, 1) := by decide +kernel
theorem dX12_take__59 : decode cX12_take_ 59 = .ok (.iaload, 1) := by decide +kernel
theorem dX12_take__60 : decode cX12_take_ 60 = .ok (.i2l, 1) := by decide +kernel
theorem dX12_take__61 : decode cX12_take_ 61 = .ok (.lastore, 1) := by decide +kernel
theorem dX12_take__62 : decode cX12_take_ 62 = .ok (.iinc 3 1, 3) := by decide +kernel
theorem dX12_take__65 : decode cX12_take_ 65 = .ok (.goto (-32), 3) := by decide +kernel
theorem dX12_take__68 : decode cX12_take_ 68 = .ok (.aload_n 0, 1) := by decide +kernel
theorem dX12_take__69 : decode cX12_take_ 69 = .ok (.iload_n 2, 1) := by decide +kernel
theorem dX12_take__70 : decode cX12_take_ 70 = .ok (.bipush 8, 2) := by decide +kernel
theorem dX12_take__72 : decode cX12_take_ 72 = .ok (.invokevirtual 286, 3) := by decide +kernel
theorem dX12_take__75 : decode cX12_take_ 75 = .ok (.ireturn, 1) := by decide +kernel
theorem dX12_coefficient_0 : decode cX12_coefficient 0 = .ok (.aload_n 0, 1) := by decide +kernel
theorem dX12_coefficient_1 : decode cX12_coefficient 1 = .ok (.iconst 0, 1) := by decide +kernel
theorem dX12_coefficient_2 : decode cX12_coefficient 2 = .ok (.putfield 83, 3) := by decide +kernel
theorem dX12_coefficient_5 : decode cX12_coefficient 5 = .ok (.iload_n 1, 1) := by decide +kernel
theorem dX12_coefficient_6 : decode cX12_coefficient 6 = .ok (.invokestatic 277, 3) := by decide +kernel
theorem dX12_coefficient_9 : decode cX12_coefficient 9 = .ok (.ifCond .eq 24, 3) := by decide +kernel
theorem dX12_coefficient_12 : decode cX12_coefficient 12 = .ok (.iload_n 2, 1) := by decide +kernel
theorem dX12_coefficient_13 : decode cX12_coefficient 13 = .ok (.i2l, 1) := by decide +kernel
theorem dX12_coefficient_14 : decode cX12_coefficient 14 = .ok (.lconst 0, 1) := by decide +kernel
theorem dX12_coefficient_15 : decode cX12_coefficient 15 = .ok (.ldc2_w 126, 3) := by decide +kernel
theorem dX12_coefficient_18 : decode cX12_coefficient 18 = .ok (.invokestatic 103, 3) := by decide +kernel
theorem dX12_coefficient_21 : decode cX12_coefficient 21 = .ok (.ifCond .eq 12, 3) := by decide +kernel
theorem dX12_coefficient_24 : decode cX12_coefficient 24 = .ok (.aload_n 0, 1) := by decide +kernel
theorem dX12_coefficient_25 : decode cX12_coefficient 25 = .ok (.iload_n 1, 1) := by decide +kernel
theorem dX12_coefficient_26 : decode cX12_coefficient 26 = .ok (.iload_n 2, 1) := by decide +kernel
theorem dX12_coefficient_27 : decode cX12_coefficient 27 = .ok (.invokevirtual 122, 3) := by decide +kernel
theorem dX12_coefficient_30 : decode cX12_coefficient 30 = .ok (.goto 6, 3) := by decide +kernel
theorem dX12_coefficient_33 : decode cX12_coefficient 33 = .ok (.ldc_w 337, 3) := by decide +kernel
theorem dX12_coefficient_36 : decode cX12_coefficient 36 = .ok (.ireturn, 1) := by decide +kernel
theorem dX12_sum_0 : decode cX12_sum 0 = .ok (.iconst 0, 1) := by decide +kernel
theorem dX12_sum_1 : decode cX12_sum 1 = .ok (.istore_n 3, 1) := by decide +kernel
theorem dX12_sum_2 : decode cX12_sum 2 = .ok (.iconst 0, 1) := by decide +kernel
theorem dX12_sum_3 : decode cX12_sum 3 = .ok (.istore 4, 2) := by decide +kernel
theorem dX12_sum_5 : decode cX12_sum 5 = .ok (.iconst 0, 1) := by decide +kernel
theorem dX12_sum_6 : decode cX12_sum 6 = .ok (.istore 5, 2) := by decide +kernel
theorem dX12_sum_8 : decode cX12_sum 8 = .ok (.iconst 0, 1) := by decide +kernel
theorem dX12_sum_9 : decode cX12_sum 9 = .ok (.istore 6, 2) := by decide +kernel
theorem dX12_sum_11 : decode cX12_sum 11 = .ok (.iconst 0, 1) := by decide +kernel
theorem dX12_sum_12 : decode cX12_sum 12 = .ok (.istore 7, 2) := by decide +kernel
theorem dX12_sum_14 : decode cX12_sum 14 = .ok (.iconst 0, 1) := by decide +kernel
theorem dX12_sum_15 : decode cX12_sum 15 = .ok (.istore 8, 2) := by decide +kernel
theorem dX12_sum_17 : decode cX12_sum 17 = .ok (.iconst 0, 1) := by decide +kernel
theorem dX12_sum_18 : decode cX12_sum 18 = .ok (.istore 9, 2) := by decide +kernel
theorem dX12_sum_20 : decode cX12_sum 20 = .ok (.iconst 0, 1) := by decide +kernel
theorem dX12_sum_21 : decode cX12_sum 21 = .ok (.istore 10, 2) := by decide +kernel
theorem dX12_sum_23 : decode cX12_sum 23 = .ok (.iload 10, 2) := by decide +kernel
theorem dX12_sum_25 : decode cX12_sum 25 = .ok (.bipush 12, 2) := by decide +kernel
theorem dX12_sum_27 : decode cX12_sum 27 = .ok (.if_icmp .gt 126, 3) := by decide +kernel
theorem dX12_sum_30 : decode cX12_sum 30 = .ok (.aload_n 0, 1) := by decide +kernel
theorem dX12_sum_31 : decode cX12_sum 31 = .ok (.iload_n 1, 1) := by decide +kernel
theorem dX12_sum_32 : decode cX12_sum 32 = .ok (.iload 10, 2) := by decide +kernel
theorem dX12_sum_34 : decode cX12_sum 34 = .ok (.invokevirtual 122, 3) := by decide +kernel
theorem dX12_sum_37 : decode cX12_sum 37 = .ok (.istore 11, 2) := by decide +kernel
theorem dX12_sum_39 : decode cX12_sum 39 = .ok (.iload 11, 2) := by decide +kernel
theorem dX12_sum_41 : decode cX12_sum 41 = .ok (.i2l, 1) := by decide +kernel
theorem dX12_sum_42 : decode cX12_sum 42 = .ok (.invokestatic 146, 3) := by decide +kernel
theorem dX12_sum_45 : decode cX12_sum 45 = .ok (.l2i, 1) := by decide +kernel
theorem dX12_sum_46 : decode cX12_sum 46 = .ok (.istore 12, 2) := by decide +kernel
theorem dX12_sum_48 : decode cX12_sum 48 = .ok (.iload_n 3, 1) := by decide +kernel
theorem dX12_sum_49 : decode cX12_sum 49 = .ok (.iload 12, 2) := by decide +kernel
theorem dX12_sum_51 : decode cX12_sum 51 = .ok (.iadd, 1) := by decide +kernel
theorem dX12_sum_52 : decode cX12_sum 52 = .ok (.istore_n 3, 1) := by decide +kernel
theorem dX12_sum_53 : decode cX12_sum 53 = .ok (.iload 12, 2) := by decide +kernel
theorem dX12_sum_55 : decode cX12_sum 55 = .ok (.iload 4, 2) := by decide +kernel
theorem dX12_sum_57 : decode cX12_sum 57 = .ok (.if_icmp .le 8, 3) := by decide +kernel
theorem dX12_sum_60 : decode cX12_sum 60 = .ok (.iload 12, 2) := by decide +kernel
theorem dX12_sum_62 : decode cX12_sum 62 = .ok (.goto 5, 3) := by decide +kernel
theorem dX12_sum_65 : decode cX12_sum 65 = .ok (.iload 4, 2) := by decide +kernel
theorem dX12_sum_67 : decode cX12_sum 67 = .ok (.istore 4, 2) := by decide +kernel
theorem dX12_sum_69 : decode cX12_sum 69 = .ok (.iload 5, 2) := by decide +kernel
theorem dX12_sum_71 : decode cX12_sum 71 = .ok (.iload 11, 2) := by decide +kernel
theorem dX12_sum_73 : decode cX12_sum 73 = .ok (.iload 11, 2) := by decide +kernel
theorem dX12_sum_75 : decode cX12_sum 75 = .ok (.imul, 1) := by decide +kernel
theorem dX12_sum_76 : decode cX12_sum 76 = .ok (.iadd, 1) := by decide +kernel
theorem dX12_sum_77 : decode cX12_sum 77 = .ok (.istore 5, 2) := by decide +kernel
theorem dX12_sum_79 : decode cX12_sum 79 = .ok (.iload 6, 2) := by decide +kernel
theorem dX12_sum_81 : decode cX12_sum 81 = .ok (.iload 11, 2) := by decide +kernel
theorem dX12_sum_83 : decode cX12_sum 83 = .ok (.ifCond .eq 7, 3) := by decide +kernel
theorem dX12_sum_86 : decode cX12_sum 86 = .ok (.iconst 1, 1) := by decide +kernel
theorem dX12_sum_87 : decode cX12_sum 87 = .ok (.goto 4, 3) := by decide +kernel
theorem dX12_sum_90 : decode cX12_sum 90 = .ok (.iconst 0, 1) := by decide +kernel
theorem dX12_sum_91 : decode cX12_sum 91 = .ok (.iadd, 1) := by decide +kernel
theorem dX12_sum_92 : decode cX12_sum 92 = .ok (.istore 6, 2) := by decide +kernel
theorem dX12_sum_94 : decode cX12_sum 94 = .ok (.iload 7, 2) := by decide +kernel
theorem dX12_sum_96 : decode cX12_sum 96 = .ok (.iload 11, 2) := by decide +kernel
theorem dX12_sum_98 : decode cX12_sum 98 = .ok (.invokestatic 152, 3) := by decide +kernel
theorem dX12_sum_101 : decode cX12_sum 101 = .ok (.istore 7, 2) := by decide +kernel
theorem dX12_sum_103 : decode cX12_sum 103 = .ok (.iload 8, 2) := by decide +kernel
theorem dX12_sum_105 : decode cX12_sum 105 = .ok (.iload 11, 2) := by decide +kernel
theorem dX12_sum_107 : decode cX12_sum 107 = .ok (.ifCond .le 8, 3) := by decide +kernel
theorem dX12_sum_110 : decode cX12_sum 110 = .ok (.iload 9, 2) := by decide +kernel
theorem dX12_sum_112 : decode cX12_sum 112 = .ok (.ifCond .lt 13, 3) := by decide +kernel
theorem dX12_sum_115 : decode cX12_sum 115 = .ok (.iload 11, 2) := by decide +kernel
theorem dX12_sum_117 : decode cX12_sum 117 = .ok (.ifCond .ge 12, 3) := by decide +kernel
theorem dX12_sum_120 : decode cX12_sum 120 = .ok (.iload 9, 2) := by decide +kernel
theorem dX12_sum_122 : decode cX12_sum 122 = .ok (.ifCond .le 7, 3) := by decide +kernel
theorem dX12_sum_125 : decode cX12_sum 125 = .ok (.iconst 1, 1) := by decide +kernel
theorem dX12_sum_126 : decode cX12_sum 126 = .ok (.goto 4, 3) := by decide +kernel
theorem dX12_sum_129 : decode cX12_sum 129 = .ok (.iconst 0, 1) := by decide +kernel
theorem dX12_sum_130 : decode cX12_sum 130 = .ok (.iadd, 1) := by decide +kernel
theorem dX12_sum_131 : decode cX12_sum 131 = .ok (.istore 8, 2) := by decide +kernel
theorem dX12_sum_133 : decode cX12_sum 133 = .ok (.iload 11, 2) := by decide +kernel
theorem dX12_sum_135 : decode cX12_sum 135 = .ok (.ifCond .eq 8, 3) := by decide +kernel
theorem dX12_sum_138 : decode cX12_sum 138 = .ok (.iload 11, 2) := by decide +kernel
theorem dX12_sum_140 : decode cX12_sum 140 = .ok (.goto 5, 3) := by decide +kernel
theorem dX12_sum_143 : decode cX12_sum 143 = .ok (.iload 9, 2) := by decide +kernel
theorem dX12_sum_145 : decode cX12_sum 145 = .ok (.istore 9, 2) := by decide +kernel
theorem dX12_sum_147 : decode cX12_sum 147 = .ok (.iinc 10 1, 3) := by decide +kernel
theorem dX12_sum_150 : decode cX12_sum 150 = .ok (.goto (-127), 3) := by decide +kernel
theorem dX12_sum_153 : decode cX12_sum 153 = .ok (.iload_n 2, 1) := by decide +kernel
theorem dX12_sum_154 : decode cX12_sum 154 = .ok (.tableswitch 56 1 7 #[42, 44, 47, 56, 56, 50, 53], 42) := by decide +kernel
theorem dX12_sum_196 : decode cX12_sum 196 = .ok (.iload_n 3, 1) := by decide +kernel
theorem dX12_sum_197 : decode cX12_sum 197 = .ok (.ireturn, 1) := by decide +kernel
theorem dX12_sum_198 : decode cX12_sum 198 = .ok (.iload 4, 2) := by decide +kernel
theorem dX12_sum_200 : decode cX12_sum 200 = .ok (.ireturn, 1) := by decide +kernel
theorem dX12_sum_201 : decode cX12_sum 201 = .ok (.iload 5, 2) := by decide +kernel
theorem dX12_sum_203 : decode cX12_sum 203 = .ok (.ireturn, 1) := by decide +kernel
theorem dX12_sum_204 : decode cX12_sum 204 = .ok (.iload 6, 2) := by decide +kernel
theorem dX12_sum_206 : decode cX12_sum 206 = .ok (.ireturn, 1) := by decide +kernel
theorem dX12_sum_207 : decode cX12_sum 207 = .ok (.iload 7, 2) := by decide +kernel
theorem dX12_sum_209 : decode cX12_sum 209 = .ok (.ireturn, 1) := by decide +kernel
theorem dX12_sum_210 : decode cX12_sum 210 = .ok (.iload 8, 2) := by decide +kernel
theorem dX12_sum_212 : decode cX12_sum 212 = .ok (.ireturn, 1) := by decide +kernel
theorem dX12_isReciprocal_0 : decode cX12_isReciprocal 0 = .ok (.iconst 1, 1) := by decide +kernel
theorem dX12_isReciprocal_1 : decode cX12_isReciprocal 1 = .ok (.istore_n 2, 1) := by decide +kernel
theorem dX12_isReciprocal_2 : decode cX12_isReciprocal 2 = .ok (.iconst 0, 1) := by decide +kernel
theorem dX12_isReciprocal_3 : decode cX12_isReciprocal 3 = .ok (.istore_n 3, 1) := by decide +kernel
theorem dX12_isReciprocal_4 : decode cX12_isReciprocal 4 = .ok (.iload_n 3, 1) := by decide +kernel
theorem dX12_isReciprocal_5 : decode cX12_isReciprocal 5 = .ok (.aload_n 0, 1) := by decide +kernel
theorem dX12_isReciprocal_6 : decode cX12_isReciprocal 6 = .ok (.iload_n 1, 1) := by decide +kernel
theorem dX12_isReciprocal_7 : decode cX12_isReciprocal 7 = .ok (.invokevirtual 119, 3) := by decide +kernel
theorem dX12_isReciprocal_10 : decode cX12_isReciprocal 10 = .ok (.if_icmp .gt 40, 3) := by decide +kernel
theorem dX12_isReciprocal_13 : decode cX12_isReciprocal 13 = .ok (.iload_n 2, 1) := by decide +kernel
theorem dX12_isReciprocal_14 : decode cX12_isReciprocal 14 = .ok (.ifCond .eq 28, 3) := by decide +kernel
theorem dX12_isReciprocal_17 : decode cX12_isReciprocal 17 = .ok (.aload_n 0, 1) := by decide +kernel
theorem dX12_isReciprocal_18 : decode cX12_isReciprocal 18 = .ok (.iload_n 1, 1) := by decide +kernel
theorem dX12_isReciprocal_19 : decode cX12_isReciprocal 19 = .ok (.iload_n 3, 1) := by decide +kernel
theorem dX12_isReciprocal_20 : decode cX12_isReciprocal 20 = .ok (.invokevirtual 122, 3) := by decide +kernel
theorem dX12_isReciprocal_23 : decode cX12_isReciprocal 23 = .ok (.aload_n 0, 1) := by decide +kernel
theorem dX12_isReciprocal_24 : decode cX12_isReciprocal 24 = .ok (.iload_n 1, 1) := by decide +kernel
theorem dX12_isReciprocal_25 : decode cX12_isReciprocal 25 = .ok (.aload_n 0, 1) := by decide +kernel
theorem dX12_isReciprocal_26 : decode cX12_isReciprocal 26 = .ok (.iload_n 1, 1) := by decide +kernel
theorem dX12_isReciprocal_27 : decode cX12_isReciprocal 27 = .ok (.invokevirtual 119, 3) := by decide +kernel
theorem dX12_isReciprocal_30 : decode cX12_isReciprocal 30 = .ok (.iload_n 3, 1) := by decide +kernel
theorem dX12_isReciprocal_31 : decode cX12_isReciprocal 31 = .ok (.isub, 1) := by decide +kernel
theorem dX12_isReciprocal_32 : decode cX12_isReciprocal 32 = .ok (.invokevirtual 122, 3) := by decide +kernel
theorem dX12_isReciprocal_35 : decode cX12_isReciprocal 35 = .ok (.if_icmp .ne 7, 3) := by decide +kernel
theorem dX12_isReciprocal_38 : decode cX12_isReciprocal 38 = .ok (.iconst 1, 1) := by decide +kernel
theorem dX12_isReciprocal_39 : decode cX12_isReciprocal 39 = .ok (.goto 4, 3) := by decide +kernel
theorem dX12_isReciprocal_42 : decode cX12_isReciprocal 42 = .ok (.iconst 0, 1) := by decide +kernel
theorem dX12_isReciprocal_43 : decode cX12_isReciprocal 43 = .ok (.istore_n 2, 1) := by decide +kernel
theorem dX12_isReciprocal_44 : decode cX12_isReciprocal 44 = .ok (.iinc 3 1, 3) := by decide +kernel
theorem dX12_isReciprocal_47 : decode cX12_isReciprocal 47 = .ok (.goto (-43), 3) := by decide +kernel
theorem dX12_isReciprocal_50 : decode cX12_isReciprocal 50 = .ok (.iload_n 2, 1) := by decide +kernel
theorem dX12_isReciprocal_51 : decode cX12_isReciprocal 51 = .ok (.ireturn, 1) := by decide +kernel
theorem dX12_of_0 : decode cX12_of 0 = .ok (.aload_n 0, 1) := by decide +kernel
theorem dX12_of_1 : decode cX12_of 1 = .ok (.iconst 0, 1) := by decide +kernel
theorem dX12_of_2 : decode cX12_of 2 = .ok (.putfield 83, 3) := by decide +kernel
theorem dX12_of_5 : decode cX12_of 5 = .ok (.iload_n 1, 1) := by decide +kernel
theorem dX12_of_6 : decode cX12_of 6 = .ok (.invokestatic 277, 3) := by decide +kernel
theorem dX12_of_9 : decode cX12_of 9 = .ok (.ifCond .eq 15, 3) := by decide +kernel
theorem dX12_of_12 : decode cX12_of 12 = .ok (.iload_n 2, 1) := by decide +kernel
theorem dX12_of_13 : decode cX12_of 13 = .ok (.i2l, 1) := by decide +kernel
theorem dX12_of_14 : decode cX12_of 14 = .ok (.lconst 0, 1) := by decide +kernel
theorem dX12_of_15 : decode cX12_of 15 = .ok (.ldc2_w 338, 3) := by decide +kernel
theorem dX12_of_18 : decode cX12_of 18 = .ok (.invokestatic 103, 3) := by decide +kernel
theorem dX12_of_21 : decode cX12_of 21 = .ok (.ifCond .ne 5, 3) := by decide +kernel
theorem dX12_of_24 : decode cX12_of 24 = .ok (.iconst (-1), 1) := by decide +kernel
theorem dX12_of_25 : decode cX12_of 25 = .ok (.ireturn, 1) := by decide +kernel
theorem dX12_of_26 : decode cX12_of 26 = .ok (.aload_n 0, 1) := by decide +kernel
theorem dX12_of_27 : decode cX12_of 27 = .ok (.iload_n 1, 1) := by decide +kernel
theorem dX12_of_28 : decode cX12_of 28 = .ok (.invokevirtual 295, 3) := by decide +kernel
theorem dX12_of_31 : decode cX12_of 31 = .ok (.iload_n 2, 1) := by decide +kernel
theorem dX12_of_32 : decode cX12_of 32 = .ok (.ifCond .ne 9, 3) := by decide +kernel
theorem dX12_of_35 : decode cX12_of 35 = .ok (.aload_n 0, 1) := by decide +kernel
theorem dX12_of_36 : decode cX12_of 36 = .ok (.iload_n 1, 1) := by decide +kernel
theorem dX12_of_37 : decode cX12_of 37 = .ok (.invokevirtual 119, 3) := by decide +kernel
theorem dX12_of_40 : decode cX12_of 40 = .ok (.ireturn, 1) := by decide +kernel
theorem dX12_of_41 : decode cX12_of 41 = .ok (.iload_n 2, 1) := by decide +kernel
theorem dX12_of_42 : decode cX12_of 42 = .ok (.iconst 4, 1) := by decide +kernel
theorem dX12_of_43 : decode cX12_of 43 = .ok (.if_icmp .ne 17, 3) := by decide +kernel
theorem dX12_of_46 : decode cX12_of 46 = .ok (.aload_n 0, 1) := by decide +kernel
theorem dX12_of_47 : decode cX12_of 47 = .ok (.iload_n 1, 1) := by decide +kernel
theorem dX12_of_48 : decode cX12_of 48 = .ok (.invokevirtual 340, 3) := by decide +kernel
theorem dX12_of_51 : decode cX12_of 51 = .ok (.ifCond .eq 7, 3) := by decide +kernel
theorem dX12_of_54 : decode cX12_of 54 = .ok (.iconst 1, 1) := by decide +kernel
theorem dX12_of_55 : decode cX12_of 55 = .ok (.goto 4, 3) := by decide +kernel
theorem dX12_of_58 : decode cX12_of 58 = .ok (.iconst 0, 1) := by decide +kernel
theorem dX12_of_59 : decode cX12_of 59 = .ok (.ireturn, 1) := by decide +kernel
theorem dX12_of_60 : decode cX12_of 60 = .ok (.iload_n 2, 1) := by decide +kernel
theorem dX12_of_61 : decode cX12_of 61 = .ok (.iconst 5, 1) := by decide +kernel
theorem dX12_of_62 : decode cX12_of 62 = .ok (.if_icmp .ne 16, 3) := by decide +kernel
theorem dX12_of_65 : decode cX12_of 65 = .ok (.aload_n 0, 1) := by decide +kernel
theorem dX12_of_66 : decode cX12_of 66 = .ok (.invokevirtual 309, 3) := by decide +kernel
theorem dX12_of_69 : decode cX12_of 69 = .ok (.ifCond .eq 7, 3) := by decide +kernel
theorem dX12_of_72 : decode cX12_of 72 = .ok (.iconst 1, 1) := by decide +kernel
theorem dX12_of_73 : decode cX12_of 73 = .ok (.goto 4, 3) := by decide +kernel
theorem dX12_of_76 : decode cX12_of 76 = .ok (.iconst 0, 1) := by decide +kernel
theorem dX12_of_77 : decode cX12_of 77 = .ok (.ireturn, 1) := by decide +kernel
theorem dX12_of_78 : decode cX12_of 78 = .ok (.iload_n 2, 1) := by decide +kernel
theorem dX12_of_79 : decode cX12_of 79 = .ok (.bipush 9, 2) := by decide +kernel
theorem dX12_of_81 : decode cX12_of 81 = .ok (.if_icmp .ne 12, 3) := by decide +kernel
theorem dX12_of_84 : decode cX12_of 84 = .ok (.aload_n 0, 1) := by decide +kernel
theorem dX12_of_85 : decode cX12_of 85 = .ok (.invokevirtual 303, 3) := by decide +kernel
theorem dX12_of_88 : decode cX12_of 88 = .ok (.aload_n 0, 1) := by decide +kernel
theorem dX12_of_89 : decode cX12_of 89 = .ok (.getfield 196, 3) := by decide +kernel
theorem dX12_of_92 : decode cX12_of 92 = .ok (.ireturn, 1) := by decide +kernel
theorem dX12_of_93 : decode cX12_of 93 = .ok (.aload_n 0, 1) := by decide +kernel
theorem dX12_of_94 : decode cX12_of 94 = .ok (.iload_n 1, 1) := by decide +kernel
theorem dX12_of_95 : decode cX12_of 95 = .ok (.iload_n 2, 1) := by decide +kernel
theorem dX12_of_96 : decode cX12_of 96 = .ok (.invokevirtual 343, 3) := by decide +kernel
theorem dX12_of_99 : decode cX12_of 99 = .ok (.ireturn, 1) := by decide +kernel
theorem dX12_hasLevel_0 : decode cX12_hasLevel 0 = .ok (.iload_n 1, 1) := by decide +kernel
theorem dX12_hasLevel_1 : decode cX12_hasLevel 1 = .ok (.invokestatic 277, 3) := by decide +kernel
theorem dX12_hasLevel_4 : decode cX12_hasLevel 4 = .ok (.ifCond .eq 15, 3) := by decide +kernel
theorem dX12_hasLevel_7 : decode cX12_hasLevel 7 = .ok (.iload_n 2, 1) := by decide +kernel
theorem dX12_hasLevel_8 : decode cX12_hasLevel 8 = .ok (.i2l, 1) := by decide +kernel
theorem dX12_hasLevel_9 : decode cX12_hasLevel 9 = .ok (.lconst 0, 1) := by decide +kernel
theorem dX12_hasLevel_10 : decode cX12_hasLevel 10 = .ok (.ldc2_w 324, 3) := by decide +kernel
theorem dX12_hasLevel_13 : decode cX12_hasLevel 13 = .ok (.invokestatic 103, 3) := by decide +kernel
theorem dX12_hasLevel_16 : decode cX12_hasLevel 16 = .ok (.ifCond .ne 5, 3) := by decide +kernel
theorem dX12_hasLevel_19 : decode cX12_hasLevel 19 = .ok (.iconst 0, 1) := by decide +kernel
theorem dX12_hasLevel_20 : decode cX12_hasLevel 20 = .ok (.ireturn, 1) := by decide +kernel
theorem dX12_hasLevel_21 : decode cX12_hasLevel 21 = .ok (.aload_n 0, 1) := by decide +kernel
theorem dX12_hasLevel_22 : decode cX12_hasLevel 22 = .ok (.iload_n 1, 1) := by decide +kernel
theorem dX12_hasLevel_23 : decode cX12_hasLevel 23 = .ok (.invokevirtual 295, 3) := by decide +kernel
theorem dX12_hasLevel_26 : decode cX12_hasLevel 26 = .ok (.aload_n 0, 1) := by decide +kernel
theorem dX12_hasLevel_27 : decode cX12_hasLevel 27 = .ok (.invokevirtual 303, 3) := by decide +kernel
theorem dX12_hasLevel_30 : decode cX12_hasLevel 30 = .ok (.iload_n 2, 1) := by decide +kernel
theorem dX12_hasLevel_31 : decode cX12_hasLevel 31 = .ok (.aload_n 0, 1) := by decide +kernel
theorem dX12_hasLevel_32 : decode cX12_hasLevel 32 = .ok (.getfield 196, 3) := by decide +kernel
theorem dX12_hasLevel_35 : decode cX12_hasLevel 35 = .ok (.if_icmp .gt 7, 3) := by decide +kernel
theorem dX12_hasLevel_38 : decode cX12_hasLevel 38 = .ok (.iconst 1, 1) := by decide +kernel
theorem dX12_hasLevel_39 : decode cX12_hasLevel 39 = .ok (.goto 4, 3) := by decide +kernel
theorem dX12_hasLevel_42 : decode cX12_hasLevel 42 = .ok (.iconst 0, 1) := by decide +kernel
theorem dX12_hasLevel_43 : decode cX12_hasLevel 43 = .ok (.ireturn, 1) := by decide +kernel
theorem dX12_level_0 : decode cX12_level 0 = .ok (.aload_n 0, 1) := by decide +kernel
theorem dX12_level_1 : decode cX12_level 1 = .ok (.iconst 0, 1) := by decide +kernel
theorem dX12_level_2 : decode cX12_level 2 = .ok (.putfield 83, 3) := by decide +kernel
theorem dX12_level_5 : decode cX12_level 5 = .ok (.iload_n 3, 1) := by decide +kernel
theorem dX12_level_6 : decode cX12_level 6 = .ok (.i2l, 1) := by decide +kernel
theorem dX12_level_7 : decode cX12_level 7 = .ok (.lconst 0, 1) := by decide +kernel
theorem dX12_level_8 : decode cX12_level 8 = .ok (.ldc2_w 126, 3) := by decide +kernel
theorem dX12_level_11 : decode cX12_level 11 = .ok (.invokestatic 103, 3) := by decide +kernel
theorem dX12_level_14 : decode cX12_level 14 = .ok (.ifCond .eq 26, 3) := by decide +kernel
theorem dX12_level_17 : decode cX12_level 17 = .ok (.aload_n 0, 1) := by decide +kernel
theorem dX12_level_18 : decode cX12_level 18 = .ok (.iload_n 1, 1) := by decide +kernel
theorem dX12_level_19 : decode cX12_level 19 = .ok (.iload_n 2, 1) := by decide +kernel
theorem dX12_level_20 : decode cX12_level 20 = .ok (.invokevirtual 346, 3) := by decide +kernel
theorem dX12_level_23 : decode cX12_level 23 = .ok (.ifCond .eq 17, 3) := by decide +kernel
theorem dX12_level_26 : decode cX12_level 26 = .ok (.aload_n 0, 1) := by decide +kernel
theorem dX12_level_27 : decode cX12_level 27 = .ok (.getfield 45, 3) := by decide +kernel
theorem dX12_level_30 : decode cX12_level 30 = .ok (.bipush 13, 2) := by decide +kernel
theorem dX12_level_32 : decode cX12_level 32 = .ok (.iload_n 2, 1) := by decide +kernel
theorem dX12_level_33 : decode cX12_level 33 = .ok (.imul, 1) := by decide +kernel
theorem dX12_level_34 : decode cX12_level 34 = .ok (.iload_n 3, 1) := by decide +kernel
theorem dX12_level_35 : decode cX12_level 35 = .ok (.iadd, 1) := by decide +kernel
theorem dX12_level_36 : decode cX12_level 36 = .ok (.laload, 1) := by decide +kernel
theorem dX12_level_37 : decode cX12_level 37 = .ok (.goto 6, 3) := by decide +kernel
theorem dX12_level_40 : decode cX12_level 40 = .ok (.ldc2_w 177, 3) := by decide +kernel
theorem dX12_level_43 : decode cX12_level 43 = .ok (.lreturn, 1) := by decide +kernel
theorem dX12_low_0 : decode cX12_low 0 = .ok (.aload_n 0, 1) := by decide +kernel
theorem dX12_low_1 : decode cX12_low 1 = .ok (.iconst 0, 1) := by decide +kernel
theorem dX12_low_2 : decode cX12_low 2 = .ok (.putfield 83, 3) := by decide +kernel
theorem dX12_low_5 : decode cX12_low 5 = .ok (.aload_n 0, 1) := by decide +kernel
theorem dX12_low_6 : decode cX12_low 6 = .ok (.iload_n 1, 1) := by decide +kernel
theorem dX12_low_7 : decode cX12_low 7 = .ok (.iload_n 2, 1) := by decide +kernel
theorem dX12_low_8 : decode cX12_low 8 = .ok (.invokevirtual 346, 3) := by decide +kernel
theorem dX12_low_11 : decode cX12_low 11 = .ok (.ifCond .eq 11, 3) := by decide +kernel
theorem dX12_low_14 : decode cX12_low 14 = .ok (.aload_n 0, 1) := by decide +kernel
theorem dX12_low_15 : decode cX12_low 15 = .ok (.iload_n 2, 1) := by decide +kernel
theorem dX12_low_16 : decode cX12_low 16 = .ok (.invokevirtual 315, 3) := by decide +kernel
theorem dX12_low_19 : decode cX12_low 19 = .ok (.goto 4, 3) := by decide +kernel
theorem dX12_low_22 : decode cX12_low 22 = .ok (.iconst (-1), 1) := by decide +kernel
theorem dX12_low_23 : decode cX12_low 23 = .ok (.ireturn, 1) := by decide +kernel
theorem dX12_high_0 : decode cX12_high 0 = .ok (.aload_n 0, 1) := by decide +kernel
theorem dX12_high_1 : decode cX12_high 1 = .ok (.iconst 0, 1) := by decide +kernel
theorem dX12_high_2 : decode cX12_high 2 = .ok (.putfield 83, 3) := by decide +kernel
theorem dX12_high_5 : decode cX12_high 5 = .ok (.aload_n 0, 1) := by decide +kernel
theorem dX12_high_6 : decode cX12_high 6 = .ok (.iload_n 1, 1) := by decide +kernel
theorem dX12_high_7 : decode cX12_high 7 = .ok (.iload_n 2, 1) := by decide +kernel
theorem dX12_high_8 : decode cX12_high 8 = .ok (.invokevirtual 346, 3) := by decide +kernel
theorem dX12_high_11 : decode cX12_high 11 = .ok (.ifCond .eq 11, 3) := by decide +kernel
theorem dX12_high_14 : decode cX12_high 14 = .ok (.aload_n 0, 1) := by decide +kernel
theorem dX12_high_15 : decode cX12_high 15 = .ok (.iload_n 2, 1) := by decide +kernel
theorem dX12_high_16 : decode cX12_high 16 = .ok (.invokevirtual 312, 3) := by decide +kernel
theorem dX12_high_19 : decode cX12_high 19 = .ok (.goto 4, 3) := by decide +kernel
theorem dX12_high_22 : decode cX12_high 22 = .ok (.iconst (-1), 1) := by decide +kernel
theorem dX12_high_23 : decode cX12_high 23 = .ok (.ireturn, 1) := by decide +kernel
theorem dX12_layBounds_0 : decode cX12_layBounds 0 = .ok (.aload_n 0, 1) := by decide +kernel
theorem dX12_layBounds_1 : decode cX12_layBounds 1 = .ok (.iload_n 1, 1) := by decide +kernel
theorem dX12_layBounds_2 : decode cX12_layBounds 2 = .ok (.invokevirtual 295, 3) := by decide +kernel
theorem dX12_layBounds_5 : decode cX12_layBounds 5 = .ok (.aload_n 0, 1) := by decide +kernel
theorem dX12_layBounds_6 : decode cX12_layBounds 6 = .ok (.invokevirtual 303, 3) := by decide +kernel
theorem dX12_layBounds_9 : decode cX12_layBounds 9 = .ok (.iconst 0, 1) := by decide +kernel
theorem dX12_layBounds_10 : decode cX12_layBounds 10 = .ok (.istore_n 2, 1) := by decide +kernel
theorem dX12_layBounds_11 : decode cX12_layBounds 11 = .ok (.iload_n 2, 1) := by decide +kernel
theorem dX12_layBounds_12 : decode cX12_layBounds 12 = .ok (.aload_n 0, 1) := by decide +kernel
theorem dX12_layBounds_13 : decode cX12_layBounds 13 = .ok (.getfield 196, 3) := by decide +kernel
theorem dX12_layBounds_16 : decode cX12_layBounds 16 = .ok (.if_icmp .gt 80, 3) := by decide +kernel
theorem dX12_layBounds_19 : decode cX12_layBounds 19 = .ok (.aload_n 0, 1) := by decide +kernel
theorem dX12_layBounds_20 : decode cX12_layBounds 20 = .ok (.iload_n 2, 1) := by decide +kernel
theorem dX12_layBounds_21 : decode cX12_layBounds 21 = .ok (.invokevirtual 315, 3) := by decide +kernel
theorem dX12_layBounds_24 : decode cX12_layBounds 24 = .ok (.istore_n 3, 1) := by decide +kernel
theorem dX12_layBounds_25 : decode cX12_layBounds 25 = .ok (.aload_n 0, 1) := by decide +kernel
theorem dX12_layBounds_26 : decode cX12_layBounds 26 = .ok (.iload_n 2, 1) := by decide +kernel
theorem dX12_layBounds_27 : decode cX12_layBounds 27 = .ok (.invokevirtual 312, 3) := by decide +kernel
theorem dX12_layBounds_30 : decode cX12_layBounds 30 = .ok (.istore 4, 2) := by decide +kernel
theorem dX12_layBounds_32 : decode cX12_layBounds 32 = .ok (.iload_n 2, 1) := by decide +kernel
theorem dX12_layBounds_33 : decode cX12_layBounds 33 = .ok (.ifCond .eq 13, 3) := by decide +kernel
theorem dX12_layBounds_36 : decode cX12_layBounds 36 = .ok (.iload_n 3, 1) := by decide +kernel
theorem dX12_layBounds_37 : decode cX12_layBounds 37 = .ok (.aload_n 0, 1) := by decide +kernel
theorem dX12_layBounds_38 : decode cX12_layBounds 38 = .ok (.getfield 71, 3) := by decide +kernel
theorem dX12_layBounds_41 : decode cX12_layBounds 41 = .ok (.iconst 0, 1) := by decide +kernel
theorem dX12_layBounds_42 : decode cX12_layBounds 42 = .ok (.iaload, 1) := by decide +kernel
theorem dX12_layBounds_43 : decode cX12_layBounds 43 = .ok (.if_icmp .le 17, 3) := by decide +kernel
theorem dX12_layBounds_46 : decode cX12_layBounds 46 = .ok (.aload_n 0, 1) := by decide +kernel
theorem dX12_layBounds_47 : decode cX12_layBounds 47 = .ok (.getfield 71, 3) := by decide +kernel
theorem dX12_layBounds_50 : decode cX12_layBounds 50 = .ok (.iconst 0, 1) := by decide +kernel
theorem dX12_layBounds_51 : decode cX12_layBounds 51 = .ok (.iload_n 3, 1) := by decide +kernel
theorem dX12_layBounds_52 : decode cX12_layBounds 52 = .ok (.iastore, 1) := by decide +kernel
theorem dX12_layBounds_53 : decode cX12_layBounds 53 = .ok (.aload_n 0, 1) := by decide +kernel
theorem dX12_layBounds_54 : decode cX12_layBounds 54 = .ok (.getfield 71, 3) := by decide +kernel
theorem dX12_layBounds_57 : decode cX12_layBounds 57 = .ok (.iconst 2, 1) := by decide +kernel
theorem dX12_layBounds_58 : decode cX12_layBounds 58 = .ok (.iload_n 2, 1) := by decide +kernel
theorem dX12_layBounds_59 : decode cX12_layBounds 59 = .ok (.iastore, 1) := by decide +kernel
theorem dX12_layBounds_60 : decode cX12_layBounds 60 = .ok (.iload_n 2, 1) := by decide +kernel
theorem dX12_layBounds_61 : decode cX12_layBounds 61 = .ok (.ifCond .eq 14, 3) := by decide +kernel
theorem dX12_layBounds_64 : decode cX12_layBounds 64 = .ok (.iload 4, 2) := by decide +kernel
theorem dX12_layBounds_66 : decode cX12_layBounds 66 = .ok (.aload_n 0, 1) := by decide +kernel
theorem dX12_layBounds_67 : decode cX12_layBounds 67 = .ok (.getfield 71, 3) := by decide +kernel
theorem dX12_layBounds_70 : decode cX12_layBounds 70 = .ok (.iconst 1, 1) := by decide +kernel
theorem dX12_layBounds_71 : decode cX12_layBounds 71 = .ok (.iaload, 1) := by decide +kernel
theorem dX12_layBounds_72 : decode cX12_layBounds 72 = .ok (.if_icmp .ge 18, 3) := by decide +kernel
theorem dX12_layBounds_75 : decode cX12_layBounds 75 = .ok (.aload_n 0, 1) := by decide +kernel
theorem dX12_layBounds_76 : decode cX12_layBounds 76 = .ok (.getfield 71, 3) := by decide +kernel
theorem dX12_layBounds_79 : decode cX12_layBounds 79 = .ok (.iconst 1, 1) := by decide +kernel
theorem dX12_layBounds_80 : decode cX12_layBounds 80 = .ok (.iload 4, 2) := by decide +kernel
theorem dX12_layBounds_82 : decode cX12_layBounds 82 = .ok (.iastore, 1) := by decide +kernel
theorem dX12_layBounds_83 : decode cX12_layBounds 83 = .ok (.aload_n 0, 1) := by decide +kernel
theorem dX12_layBounds_84 : decode cX12_layBounds 84 = .ok (.getfield 71, 3) := by decide +kernel
theorem dX12_layBounds_87 : decode cX12_layBounds 87 = .ok (.iconst 3, 1) := by decide +kernel
theorem dX12_layBounds_88 : decode cX12_layBounds 88 = .ok (.iload_n 2, 1) := by decide +kernel
theorem dX12_layBounds_89 : decode cX12_layBounds 89 = .ok (.iastore, 1) := by decide +kernel
theorem dX12_layBounds_90 : decode cX12_layBounds 90 = .ok (.iinc 2 1, 3) := by decide +kernel
theorem dX12_layBounds_93 : decode cX12_layBounds 93 = .ok (.goto (-82), 3) := by decide +kernel
theorem dX12_layBounds_96 : decode cX12_layBounds 96 = .ok (.return_, 1) := by decide +kernel
theorem dX12_enclosed_0 : decode cX12_enclosed 0 = .ok (.aload_n 0, 1) := by decide +kernel
theorem dX12_enclosed_1 : decode cX12_enclosed 1 = .ok (.iconst 0, 1) := by decide +kernel
theorem dX12_enclosed_2 : decode cX12_enclosed 2 = .ok (.putfield 83, 3) := by decide +kernel
theorem dX12_enclosed_5 : decode cX12_enclosed 5 = .ok (.iload_n 1, 1) := by decide +kernel
theorem dX12_enclosed_6 : decode cX12_enclosed 6 = .ok (.invokestatic 277, 3) := by decide +kernel
theorem dX12_enclosed_9 : decode cX12_enclosed 9 = .ok (.ifCond .eq 15, 3) := by decide +kernel
theorem dX12_enclosed_12 : decode cX12_enclosed 12 = .ok (.iload_n 2, 1) := by decide +kernel
theorem dX12_enclosed_13 : decode cX12_enclosed 13 = .ok (.i2l, 1) := by decide +kernel
theorem dX12_enclosed_14 : decode cX12_enclosed 14 = .ok (.lconst 0, 1) := by decide +kernel
theorem dX12_enclosed_15 : decode cX12_enclosed 15 = .ok (.ldc2_w 322, 3) := by decide +kernel
theorem dX12_enclosed_18 : decode cX12_enclosed 18 = .ok (.invokestatic 103, 3) := by decide +kernel
theorem dX12_enclosed_21 : decode cX12_enclosed 21 = .ok (.ifCond .ne 5, 3) := by decide +kernel
theorem dX12_enclosed_24 : decode cX12_enclosed 24 = .ok (.iconst (-1), 1) := by decide +kernel
theorem dX12_enclosed_25 : decode cX12_enclosed 25 = .ok (.ireturn, 1) := by decide +kernel
theorem dX12_enclosed_26 : decode cX12_enclosed 26 = .ok (.aload_n 0, 1) := by decide +kernel
theorem dX12_enclosed_27 : decode cX12_enclosed 27 = .ok (.iload_n 1, 1) := by decide +kernel
theorem dX12_enclosed_28 : decode cX12_enclosed 28 = .ok (.invokevirtual 349, 3) := by decide +kernel
theorem dX12_enclosed_31 : decode cX12_enclosed 31 = .ok (.aload_n 0, 1) := by decide +kernel
theorem dX12_enclosed_32 : decode cX12_enclosed 32 = .ok (.getfield 71, 3) := by decide +kernel
theorem dX12_enclosed_35 : decode cX12_enclosed 35 = .ok (.iload_n 2, 1) := by decide +kernel
theorem dX12_enclosed_36 : decode cX12_enclosed 36 = .ok (.iaload, 1) := by decide +kernel
theorem dX12_enclosed_37 : decode cX12_enclosed 37 = .ok (.ireturn, 1) := by decide +kernel
theorem dX12_often_0 : decode cX12_often 0 = .ok (.aload_n 0, 1) := by decide +kernel
theorem dX12_often_1 : decode cX12_often 1 = .ok (.iconst 0, 1) := by decide +kernel
theorem dX12_often_2 : decode cX12_often 2 = .ok (.putfield 83, 3) := by decide +kernel
theorem dX12_often_5 : decode cX12_often 5 = .ok (.iload_n 1, 1) := by decide +kernel
theorem dX12_often_6 : decode cX12_often 6 = .ok (.invokestatic 277, 3) := by decide +kernel
theorem dX12_often_9 : decode cX12_often 9 = .ok (.ifCond .eq 15, 3) := by decide +kernel
theorem dX12_often_12 : decode cX12_often 12 = .ok (.iload_n 2, 1) := by decide +kernel
theorem dX12_often_13 : decode cX12_often 13 = .ok (.ifCond .eq 13, 3) := by decide +kernel
theorem dX12_often_16 : decode cX12_often 16 = .ok (.aload_n 0, 1) := by decide +kernel
theorem dX12_often_17 : decode cX12_often 17 = .ok (.iload_n 2, 1) := by decide +kernel
theorem dX12_often_18 : decode cX12_often 18 = .ok (.invokevirtual 168, 3) := by decide +kernel
theorem dX12_often_21 : decode cX12_often 21 = .ok (.ifCond .ne 5, 3) := by decide +kernel
theorem dX12_often_24 : decode cX12_often 24 = .ok (.iconst (-1), 1) := by decide +kernel
theorem dX12_often_25 : decode cX12_often 25 = .ok (.ireturn, 1) := by decide +kernel
theorem dX12_often_26 : decode cX12_often 26 = .ok (.aload_n 0, 1) := by decide +kernel
theorem dX12_often_27 : decode cX12_often 27 = .ok (.iload_n 1, 1) := by decide +kernel
theorem dX12_often_28 : decode cX12_often 28 = .ok (.invokevirtual 295, 3) := by decide +kernel
theorem dX12_often_31 : decode cX12_often 31 = .ok (.aload_n 0, 1) := by decide +kernel
theorem dX12_often_32 : decode cX12_often 32 = .ok (.iload_n 2, 1) := by decide +kernel
theorem dX12_often_33 : decode cX12_often 33 = .ok (.invokevirtual 157, 3) := by decide +kernel
theorem dX12_often_36 : decode cX12_often 36 = .ok (.iconst 0, 1) := by decide +kernel
theorem dX12_often_37 : decode cX12_often 37 = .ok (.istore_n 3, 1) := by decide +kernel
theorem dX12_often_38 : decode cX12_often 38 = .ok (.aload_n 0, 1) := by decide +kernel
theorem dX12_often_39 : decode cX12_often 39 = .ok (.getfield 113, 3) := by decide +kernel
theorem dX12_often_42 : decode cX12_often 42 = .ok (.aload_n 0, 1) := by decide +kernel
theorem dX12_often_43 : decode cX12_often 43 = .ok (.getfield 143, 3) := by decide +kernel
theorem dX12_often_46 : decode cX12_often 46 = .ok (.if_icmp .lt 20, 3) := by decide +kernel
theorem dX12_often_49 : decode cX12_often 49 = .ok (.aload_n 0, 1) := by decide +kernel
theorem dX12_often_50 : decode cX12_often 50 = .ok (.invokevirtual 160, 3) := by decide +kernel
theorem dX12_often_53 : decode cX12_often 53 = .ok (.ifCond .eq 13, 3) := by decide +kernel
theorem dX12_often_56 : decode cX12_often 56 = .ok (.aload_n 0, 1) := by decide +kernel
theorem dX12_often_57 : decode cX12_often 57 = .ok (.invokevirtual 163, 3) := by decide +kernel
theorem dX12_often_60 : decode cX12_often 60 = .ok (.iinc 3 1, 3) := by decide +kernel
theorem dX12_often_63 : decode cX12_often 63 = .ok (.goto (-25), 3) := by decide +kernel
theorem dX12_often_66 : decode cX12_often 66 = .ok (.iload_n 3, 1) := by decide +kernel
theorem dX12_often_67 : decode cX12_often 67 = .ok (.ireturn, 1) := by decide +kernel
theorem dX12_value_0 : decode cX12_value 0 = .ok (.aload_n 0, 1) := by decide +kernel
theorem dX12_value_1 : decode cX12_value 1 = .ok (.iconst 0, 1) := by decide +kernel
theorem dX12_value_2 : decode cX12_value 2 = .ok (.putfield 83, 3) := by decide +kernel
theorem dX12_value_5 : decode cX12_value 5 = .ok (.iload_n 1, 1) := by decide +kernel
theorem dX12_value_6 : decode cX12_value 6 = .ok (.invokestatic 277, 3) := by decide +kernel
theorem dX12_value_9 : decode cX12_value 9 = .ok (.ifCond .eq 17, 3) := by decide +kernel
theorem dX12_value_12 : decode cX12_value 12 = .ok (.iload_n 2, 1) := by decide +kernel
theorem dX12_value_13 : decode cX12_value 13 = .ok (.i2l, 1) := by decide +kernel
theorem dX12_value_14 : decode cX12_value 14 = .ok (.ldc2_w 352, 3) := by decide +kernel
theorem dX12_value_17 : decode cX12_value 17 = .ok (.ldc2_w 354, 3) := by decide +kernel
theorem dX12_value_20 : decode cX12_value 20 = .ok (.invokestatic 103, 3) := by decide +kernel
theorem dX12_value_23 : decode cX12_value 23 = .ok (.ifCond .ne 7, 3) := by decide +kernel
theorem dX12_value_26 : decode cX12_value 26 = .ok (.ldc2_w 177, 3) := by decide +kernel
theorem dX12_value_29 : decode cX12_value 29 = .ok (.lreturn, 1) := by decide +kernel
theorem dX12_value_30 : decode cX12_value 30 = .ok (.aload_n 0, 1) := by decide +kernel
theorem dX12_value_31 : decode cX12_value 31 = .ok (.iconst 0, 1) := by decide +kernel
theorem dX12_value_32 : decode cX12_value 32 = .ok (.putfield 179, 3) := by decide +kernel
theorem dX12_value_35 : decode cX12_value 35 = .ok (.lconst 0, 1) := by decide +kernel
theorem dX12_value_36 : decode cX12_value 36 = .ok (.lstore_n 3, 1) := by decide +kernel
theorem dX12_value_37 : decode cX12_value 37 = .ok (.aload_n 0, 1) := by decide +kernel
theorem dX12_value_38 : decode cX12_value 38 = .ok (.iload_n 1, 1) := by decide +kernel
theorem dX12_value_39 : decode cX12_value 39 = .ok (.invokevirtual 119, 3) := by decide +kernel
theorem dX12_value_42 : decode cX12_value 42 = .ok (.istore 5, 2) := by decide +kernel
theorem dX12_value_44 : decode cX12_value 44 = .ok (.iload 5, 2) := by decide +kernel
theorem dX12_value_46 : decode cX12_value 46 = .ok (.ifCond .lt 36, 3) := by decide +kernel
theorem dX12_value_49 : decode cX12_value 49 = .ok (.aload_n 0, 1) := by decide +kernel
theorem dX12_value_50 : decode cX12_value 50 = .ok (.getfield 179, 3) := by decide +kernel
theorem dX12_value_53 : decode cX12_value 53 = .ok (.ifCond .ne 29, 3) := by decide +kernel
theorem dX12_value_56 : decode cX12_value 56 = .ok (.aload_n 0, 1) := by decide +kernel
theorem dX12_value_57 : decode cX12_value 57 = .ok (.aload_n 0, 1) := by decide +kernel
theorem dX12_value_58 : decode cX12_value 58 = .ok (.lload_n 3, 1) := by decide +kernel
theorem dX12_value_59 : decode cX12_value 59 = .ok (.iload_n 2, 1) := by decide +kernel
theorem dX12_value_60 : decode cX12_value 60 = .ok (.i2l, 1) := by decide +kernel
theorem dX12_value_61 : decode cX12_value 61 = .ok (.invokevirtual 186, 3) := by decide +kernel
theorem dX12_value_64 : decode cX12_value 64 = .ok (.aload_n 0, 1) := by decide +kernel
theorem dX12_value_65 : decode cX12_value 65 = .ok (.iload_n 1, 1) := by decide +kernel
theorem dX12_value_66 : decode cX12_value 66 = .ok (.iload 5, 2) := by decide +kernel
theorem dX12_value_68 : decode cX12_value 68 = .ok (.invokevirtual 122, 3) := by decide +kernel
theorem dX12_value_71 : decode cX12_value 71 = .ok (.i2l, 1) := by decide +kernel
theorem dX12_value_72 : decode cX12_value 72 = .ok (.invokevirtual 190, 3) := by decide +kernel
theorem dX12_value_75 : decode cX12_value 75 = .ok (.lstore_n 3, 1) := by decide +kernel
theorem dX12_value_76 : decode cX12_value 76 = .ok (.iinc 5 (-1), 3) := by decide +kernel
theorem dX12_value_79 : decode cX12_value 79 = .ok (.goto (-35), 3) := by decide +kernel
theorem dX12_value_82 : decode cX12_value 82 = .ok (.aload_n 0, 1) := by decide +kernel
theorem dX12_value_83 : decode cX12_value 83 = .ok (.getfield 179, 3) := by decide +kernel
theorem dX12_value_86 : decode cX12_value 86 = .ok (.ifCond .eq 9, 3) := by decide +kernel
theorem dX12_value_89 : decode cX12_value 89 = .ok (.ldc2_w 177, 3) := by decide +kernel
theorem dX12_value_92 : decode cX12_value 92 = .ok (.goto 4, 3) := by decide +kernel
theorem dX12_value_95 : decode cX12_value 95 = .ok (.lload_n 3, 1) := by decide +kernel
theorem dX12_value_96 : decode cX12_value 96 = .ok (.lreturn, 1) := by decide +kernel
theorem dX12_roots_0 : decode cX12_roots 0 = .ok (.aload_n 0, 1) := by decide +kernel
theorem dX12_roots_1 : decode cX12_roots 1 = .ok (.iconst 0, 1) := by decide +kernel
theorem dX12_roots_2 : decode cX12_roots 2 = .ok (.putfield 83, 3) := by decide +kernel
theorem dX12_roots_5 : decode cX12_roots 5 = .ok (.iload_n 1, 1) := by decide +kernel
theorem dX12_roots_6 : decode cX12_roots 6 = .ok (.invokestatic 277, 3) := by decide +kernel
theorem dX12_roots_9 : decode cX12_roots 9 = .ok (.ifCond .eq 15, 3) := by decide +kernel
theorem dX12_roots_12 : decode cX12_roots 12 = .ok (.iload_n 2, 1) := by decide +kernel
theorem dX12_roots_13 : decode cX12_roots 13 = .ok (.i2l, 1) := by decide +kernel
theorem dX12_roots_14 : decode cX12_roots 14 = .ok (.lconst 0, 1) := by decide +kernel
theorem dX12_roots_15 : decode cX12_roots 15 = .ok (.ldc2_w 318, 3) := by decide +kernel
theorem dX12_roots_18 : decode cX12_roots 18 = .ok (.invokestatic 103, 3) := by decide +kernel
theorem dX12_roots_21 : decode cX12_roots 21 = .ok (.ifCond .ne 7, 3) := by decide +kernel
theorem dX12_roots_24 : decode cX12_roots 24 = .ok (.ldc_w 337, 3) := by decide +kernel
theorem dX12_roots_27 : decode cX12_roots 27 = .ok (.ireturn, 1) := by decide +kernel
theorem dX12_roots_28 : decode cX12_roots 28 = .ok (.iconst 0, 1) := by decide +kernel
theorem dX12_roots_29 : decode cX12_roots 29 = .ok (.istore_n 3, 1) := by decide +kernel
theorem dX12_roots_30 : decode cX12_roots 30 = .ok (.ldc_w 337, 3) := by decide +kernel
theorem dX12_roots_33 : decode cX12_roots 33 = .ok (.istore 4, 2) := by decide +kernel
theorem dX12_roots_35 : decode cX12_roots 35 = .ok (.ldc_w 337, 3) := by decide +kernel
theorem dX12_roots_38 : decode cX12_roots 38 = .ok (.istore 5, 2) := by decide +kernel
theorem dX12_roots_40 : decode cX12_roots 40 = .ok (.bipush (-50), 2) := by decide +kernel
theorem dX12_roots_42 : decode cX12_roots 42 = .ok (.istore 6, 2) := by decide +kernel
theorem dX12_roots_44 : decode cX12_roots 44 = .ok (.iload 6, 2) := by decide +kernel
theorem dX12_roots_46 : decode cX12_roots 46 = .ok (.bipush 50, 2) := by decide +kernel
theorem dX12_roots_48 : decode cX12_roots 48 = .ok (.if_icmp .gt 41, 3) := by decide +kernel
theorem dX12_roots_51 : decode cX12_roots 51 = .ok (.aload_n 0, 1) := by decide +kernel
theorem dX12_roots_52 : decode cX12_roots 52 = .ok (.iload_n 1, 1) := by decide +kernel
theorem dX12_roots_53 : decode cX12_roots 53 = .ok (.iload 6, 2) := by decide +kernel
theorem dX12_roots_55 : decode cX12_roots 55 = .ok (.invokevirtual 356, 3) := by decide +kernel
theorem dX12_roots_58 : decode cX12_roots 58 = .ok (.lconst 0, 1) := by decide +kernel
theorem dX12_roots_59 : decode cX12_roots 59 = .ok (.lcmp, 1) := by decide +kernel
theorem dX12_roots_60 : decode cX12_roots 60 = .ok (.ifCond .ne 23, 3) := by decide +kernel
theorem dX12_roots_63 : decode cX12_roots 63 = .ok (.iload_n 3, 1) := by decide +kernel
theorem dX12_roots_64 : decode cX12_roots 64 = .ok (.ifCond .ne 8, 3) := by decide +kernel
theorem dX12_roots_67 : decode cX12_roots 67 = .ok (.iload 6, 2) := by decide +kernel
theorem dX12_roots_69 : decode cX12_roots 69 = .ok (.goto 5, 3) := by decide +kernel
theorem dX12_roots_72 : decode cX12_roots 72 = .ok (.iload 4, 2) := by decide +kernel
theorem dX12_roots_74 : decode cX12_roots 74 = .ok (.istore 4, 2) := by decide +kernel
theorem dX12_roots_76 : decode cX12_roots 76 = .ok (.iload 6, 2) := by decide +kernel
theorem dX12_roots_78 : decode cX12_roots 78 = .ok (.istore 5, 2) := by decide +kernel
theorem dX12_roots_80 : decode cX12_roots 80 = .ok (.iinc 3 1, 3) := by decide +kernel
theorem dX12_roots_83 : decode cX12_roots 83 = .ok (.iinc 6 1, 3) := by decide +kernel
theorem dX12_roots_86 : decode cX12_roots 86 = .ok (.goto (-42), 3) := by decide +kernel
theorem dX12_roots_89 : decode cX12_roots 89 = .ok (.iload_n 2, 1) := by decide +kernel
theorem dX12_roots_90 : decode cX12_roots 90 = .ok (.ifCond .ne 7, 3) := by decide +kernel
theorem dX12_roots_93 : decode cX12_roots 93 = .ok (.iload_n 3, 1) := by decide +kernel
theorem dX12_roots_94 : decode cX12_roots 94 = .ok (.goto 15, 3) := by decide +kernel
theorem dX12_roots_97 : decode cX12_roots 97 = .ok (.iload_n 2, 1) := by decide +kernel
theorem dX12_roots_98 : decode cX12_roots 98 = .ok (.iconst 1, 1) := by decide +kernel
theorem dX12_roots_99 : decode cX12_roots 99 = .ok (.if_icmp .ne 8, 3) := by decide +kernel
theorem dX12_roots_102 : decode cX12_roots 102 = .ok (.iload 4, 2) := by decide +kernel
theorem dX12_roots_104 : decode cX12_roots 104 = .ok (.goto 5, 3) := by decide +kernel
theorem dX12_roots_107 : decode cX12_roots 107 = .ok (.iload 5, 2) := by decide +kernel
theorem dX12_roots_109 : decode cX12_roots 109 = .ok (.ireturn, 1) := by decide +kernel
theorem dX12_by__0 : decode cX12_by_ 0 = .ok (.aload_n 0, 1) := by decide +kernel
theorem dX12_by__1 : decode cX12_by_ 1 = .ok (.iload_n 1, 1) := by decide +kernel
theorem dX12_by__2 : decode cX12_by_ 2 = .ok (.invokevirtual 295, 3) := by decide +kernel
theorem dX12_by__5 : decode cX12_by_ 5 = .ok (.aload_n 0, 1) := by decide +kernel
theorem dX12_by__6 : decode cX12_by_ 6 = .ok (.invokevirtual 303, 3) := by decide +kernel
theorem dX12_by__9 : decode cX12_by_ 9 = .ok (.iload_n 2, 1) := by decide +kernel
theorem dX12_by__10 : decode cX12_by_ 10 = .ok (.aload_n 0, 1) := by decide +kernel
theorem dX12_by__11 : decode cX12_by_ 11 = .ok (.getfield 196, 3) := by decide +kernel
theorem dX12_by__14 : decode cX12_by_ 14 = .ok (.if_icmp .ge 7, 3) := by decide +kernel
theorem dX12_by__17 : decode cX12_by_ 17 = .ok (.iload_n 2, 1) := by decide +kernel
theorem dX12_by__18 : decode cX12_by_ 18 = .ok (.goto 7, 3) := by decide +kernel
theorem dX12_by__21 : decode cX12_by_ 21 = .ok (.aload_n 0, 1) := by decide +kernel
theorem dX12_by__22 : decode cX12_by_ 22 = .ok (.getfield 196, 3) := by decide +kernel
theorem dX12_by__25 : decode cX12_by_ 25 = .ok (.istore 4, 2) := by decide +kernel
theorem dX12_by__27 : decode cX12_by_ 27 = .ok (.iload_n 3, 1) := by decide +kernel
theorem dX12_by__28 : decode cX12_by_ 28 = .ok (.ifCond .eq 12, 3) := by decide +kernel
theorem dX12_by__31 : decode cX12_by_ 31 = .ok (.aload_n 0, 1) := by decide +kernel
theorem dX12_by__32 : decode cX12_by_ 32 = .ok (.iload 4, 2) := by decide +kernel
theorem dX12_by__34 : decode cX12_by_ 34 = .ok (.invokevirtual 315, 3) := by decide +kernel
theorem dX12_by__37 : decode cX12_by_ 37 = .ok (.goto 9, 3) := by decide +kernel
theorem dX12_by__40 : decode cX12_by_ 40 = .ok (.aload_n 0, 1) := by decide +kernel
theorem dX12_by__41 : decode cX12_by_ 41 = .ok (.iload 4, 2) := by decide +kernel
theorem dX12_by__43 : decode cX12_by_ 43 = .ok (.invokevirtual 312, 3) := by decide +kernel
theorem dX12_by__46 : decode cX12_by_ 46 = .ok (.ireturn, 1) := by decide +kernel
theorem dX12_compare_0 : decode cX12_compare 0 = .ok (.aload_n 0, 1) := by decide +kernel
theorem dX12_compare_1 : decode cX12_compare 1 = .ok (.iconst 0, 1) := by decide +kernel
theorem dX12_compare_2 : decode cX12_compare 2 = .ok (.putfield 83, 3) := by decide +kernel
theorem dX12_compare_5 : decode cX12_compare 5 = .ok (.iload_n 1, 1) := by decide +kernel
theorem dX12_compare_6 : decode cX12_compare 6 = .ok (.invokestatic 277, 3) := by decide +kernel
theorem dX12_compare_9 : decode cX12_compare 9 = .ok (.ifCond .eq 22, 3) := by decide +kernel
theorem dX12_compare_12 : decode cX12_compare 12 = .ok (.iload_n 2, 1) := by decide +kernel
theorem dX12_compare_13 : decode cX12_compare 13 = .ok (.invokestatic 277, 3) := by decide +kernel
theorem dX12_compare_16 : decode cX12_compare 16 = .ok (.ifCond .eq 15, 3) := by decide +kernel
theorem dX12_compare_19 : decode cX12_compare 19 = .ok (.iload_n 3, 1) := by decide +kernel
theorem dX12_compare_20 : decode cX12_compare 20 = .ok (.i2l, 1) := by decide +kernel
theorem dX12_compare_21 : decode cX12_compare 21 = .ok (.lconst 0, 1) := by decide +kernel
theorem dX12_compare_22 : decode cX12_compare 22 = .ok (.ldc2_w 324, 3) := by decide +kernel
theorem dX12_compare_25 : decode cX12_compare 25 = .ok (.invokestatic 103, 3) := by decide +kernel
theorem dX12_compare_28 : decode cX12_compare 28 = .ok (.ifCond .ne 6, 3) := by decide +kernel
theorem dX12_compare_31 : decode cX12_compare 31 = .ok (.bipush (-2), 2) := by decide +kernel
theorem dX12_compare_33 : decode cX12_compare 33 = .ok (.ireturn, 1) := by decide +kernel
theorem dX12_compare_34 : decode cX12_compare 34 = .ok (.aload_n 0, 1) := by decide +kernel
theorem dX12_compare_35 : decode cX12_compare 35 = .ok (.iload_n 1, 1) := by decide +kernel
theorem dX12_compare_36 : decode cX12_compare 36 = .ok (.iload_n 3, 1) := by decide +kernel
theorem dX12_compare_37 : decode cX12_compare 37 = .ok (.iconst 1, 1) := by decide +kernel
theorem dX12_compare_38 : decode cX12_compare 38 = .ok (.invokevirtual 359, 3) := by decide +kernel
theorem dX12_compare_41 : decode cX12_compare 41 = .ok (.aload_n 0, 1) := by decide +kernel
theorem dX12_compare_42 : decode cX12_compare 42 = .ok (.iload_n 2, 1) := by decide +kernel
theorem dX12_compare_43 : decode cX12_compare 43 = .ok (.iload_n 3, 1) := by decide +kernel
theorem dX12_compare_44 : decode cX12_compare 44 = .ok (.iconst 0, 1) := by decide +kernel
theorem dX12_compare_45 : decode cX12_compare 45 = .ok (.invokevirtual 359, 3) := by decide +kernel
theorem dX12_compare_48 : decode cX12_compare 48 = .ok (.if_icmp .le 7, 3) := by decide +kernel
theorem dX12_compare_51 : decode cX12_compare 51 = .ok (.iconst 1, 1) := by decide +kernel
theorem dX12_compare_52 : decode cX12_compare 52 = .ok (.goto 25, 3) := by decide +kernel
theorem dX12_compare_55 : decode cX12_compare 55 = .ok (.aload_n 0, 1) := by decide +kernel
theorem dX12_compare_56 : decode cX12_compare 56 = .ok (.iload_n 2, 1) := by decide +kernel
theorem dX12_compare_57 : decode cX12_compare 57 = .ok (.iload_n 3, 1) := by decide +kernel
theorem dX12_compare_58 : decode cX12_compare 58 = .ok (.iconst 1, 1) := by decide +kernel
theorem dX12_compare_59 : decode cX12_compare 59 = .ok (.invokevirtual 359, 3) := by decide +kernel
theorem dX12_compare_62 : decode cX12_compare 62 = .ok (.aload_n 0, 1) := by decide +kernel
theorem dX12_compare_63 : decode cX12_compare 63 = .ok (.iload_n 1, 1) := by decide +kernel
theorem dX12_compare_64 : decode cX12_compare 64 = .ok (.iload_n 3, 1) := by decide +kernel
theorem dX12_compare_65 : decode cX12_compare 65 = .ok (.iconst 0, 1) := by decide +kernel
theorem dX12_compare_66 : decode cX12_compare 66 = .ok (.invokevirtual 359, 3) := by decide +kernel
theorem dX12_compare_69 : decode cX12_compare 69 = .ok (.if_icmp .le 7, 3) := by decide +kernel
theorem dX12_compare_72 : decode cX12_compare 72 = .ok (.iconst (-1), 1) := by decide +kernel
theorem dX12_compare_73 : decode cX12_compare 73 = .ok (.goto 4, 3) := by decide +kernel
theorem dX12_compare_76 : decode cX12_compare 76 = .ok (.iconst 0, 1) := by decide +kernel
theorem dX12_compare_77 : decode cX12_compare 77 = .ok (.ireturn, 1) := by decide +kernel
theorem dX12_surely_0 : decode cX12_surely 0 = .ok (.aload_n 0, 1) := by decide +kernel
theorem dX12_surely_1 : decode cX12_surely 1 = .ok (.iconst 0, 1) := by decide +kernel
theorem dX12_surely_2 : decode cX12_surely 2 = .ok (.putfield 83, 3) := by decide +kernel
theorem dX12_surely_5 : decode cX12_surely 5 = .ok (.iload_n 1, 1) := by decide +kernel
theorem dX12_surely_6 : decode cX12_surely 6 = .ok (.invokestatic 277, 3) := by decide +kernel
theorem dX12_surely_9 : decode cX12_surely 9 = .ok (.ifCond .eq 27, 3) := by decide +kernel
theorem dX12_surely_12 : decode cX12_surely 12 = .ok (.iload_n 2, 1) := by decide +kernel
theorem dX12_surely_13 : decode cX12_surely 13 = .ok (.i2l, 1) := by decide +kernel
theorem dX12_surely_14 : decode cX12_surely 14 = .ok (.lconst 0, 1) := by decide +kernel
theorem dX12_surely_15 : decode cX12_surely 15 = .ok (.ldc2_w 324, 3) := by decide +kernel
theorem dX12_surely_18 : decode cX12_surely 18 = .ok (.invokestatic 103, 3) := by decide +kernel
theorem dX12_surely_21 : decode cX12_surely 21 = .ok (.ifCond .eq 15, 3) := by decide +kernel
theorem dX12_surely_24 : decode cX12_surely 24 = .ok (.iload_n 3, 1) := by decide +kernel
theorem dX12_surely_25 : decode cX12_surely 25 = .ok (.i2l, 1) := by decide +kernel
theorem dX12_surely_26 : decode cX12_surely 26 = .ok (.lconst 0, 1) := by decide +kernel
theorem dX12_surely_27 : decode cX12_surely 27 = .ok (.ldc2_w 363, 3) := by decide +kernel
theorem dX12_surely_30 : decode cX12_surely 30 = .ok (.invokestatic 103, 3) := by decide +kernel
theorem dX12_surely_33 : decode cX12_surely 33 = .ok (.ifCond .ne 6, 3) := by decide +kernel
theorem dX12_surely_36 : decode cX12_surely 36 = .ok (.bipush (-2), 2) := by decide +kernel
theorem dX12_surely_38 : decode cX12_surely 38 = .ok (.ireturn, 1) := by decide +kernel
theorem dX12_surely_39 : decode cX12_surely 39 = .ok (.aload_n 0, 1) := by decide +kernel
theorem dX12_surely_40 : decode cX12_surely 40 = .ok (.iload_n 1, 1) := by decide +kernel
theorem dX12_surely_41 : decode cX12_surely 41 = .ok (.iload_n 2, 1) := by decide +kernel
theorem dX12_surely_42 : decode cX12_surely 42 = .ok (.iconst 0, 1) := by decide +kernel
theorem dX12_surely_43 : decode cX12_surely 43 = .ok (.invokevirtual 359, 3) := by decide +kernel
theorem dX12_surely_46 : decode cX12_surely 46 = .ok (.iload_n 3, 1) := by decide +kernel
theorem dX12_surely_47 : decode cX12_surely 47 = .ok (.if_icmp .gt 7, 3) := by decide +kernel
theorem dX12_surely_50 : decode cX12_surely 50 = .ok (.iconst 1, 1) := by decide +kernel
theorem dX12_surely_51 : decode cX12_surely 51 = .ok (.goto 19, 3) := by decide +kernel
theorem dX12_surely_54 : decode cX12_surely 54 = .ok (.aload_n 0, 1) := by decide +kernel
theorem dX12_surely_55 : decode cX12_surely 55 = .ok (.iload_n 1, 1) := by decide +kernel
theorem dX12_surely_56 : decode cX12_surely 56 = .ok (.iload_n 2, 1) := by decide +kernel
theorem dX12_surely_57 : decode cX12_surely 57 = .ok (.iconst 1, 1) := by decide +kernel
theorem dX12_surely_58 : decode cX12_surely 58 = .ok (.invokevirtual 359, 3) := by decide +kernel
theorem dX12_surely_61 : decode cX12_surely 61 = .ok (.iload_n 3, 1) := by decide +kernel
theorem dX12_surely_62 : decode cX12_surely 62 = .ok (.if_icmp .le 7, 3) := by decide +kernel
theorem dX12_surely_65 : decode cX12_surely 65 = .ok (.iconst 0, 1) := by decide +kernel
theorem dX12_surely_66 : decode cX12_surely 66 = .ok (.goto 4, 3) := by decide +kernel
theorem dX12_surely_69 : decode cX12_surely 69 = .ok (.iconst (-1), 1) := by decide +kernel
theorem dX12_surely_70 : decode cX12_surely 70 = .ok (.ireturn, 1) := by decide +kernel
theorem dX12_least_0 : decode cX12_least 0 = .ok (.aload_n 0, 1) := by decide +kernel
theorem dX12_least_1 : decode cX12_least 1 = .ok (.iconst 0, 1) := by decide +kernel
theorem dX12_least_2 : decode cX12_least 2 = .ok (.putfield 83, 3) := by decide +kernel
theorem dX12_least_5 : decode cX12_least 5 = .ok (.iload_n 1, 1) := by decide +kernel
theorem dX12_least_6 : decode cX12_least 6 = .ok (.i2l, 1) := by decide +kernel
theorem dX12_least_7 : decode cX12_least 7 = .ok (.lconst 1, 1) := by decide +kernel
theorem dX12_least_8 : decode cX12_least 8 = .ok (.ldc2_w 365, 3) := by decide +kernel
theorem dX12_least_11 : decode cX12_least 11 = .ok (.invokestatic 103, 3) := by decide +kernel
theorem dX12_least_14 : decode cX12_least 14 = .ok (.ifCond .ne 5, 3) := by decide +kernel
theorem dX12_least_17 : decode cX12_least 17 = .ok (.iconst (-1), 1) := by decide +kernel
theorem dX12_least_18 : decode cX12_least 18 = .ok (.ireturn, 1) := by decide +kernel
theorem dX12_least_19 : decode cX12_least 19 = .ok (.iconst 0, 1) := by decide +kernel
theorem dX12_least_20 : decode cX12_least 20 = .ok (.istore_n 2, 1) := by decide +kernel
theorem dX12_least_21 : decode cX12_least 21 = .ok (.iload_n 2, 1) := by decide +kernel
theorem dX12_least_22 : decode cX12_least 22 = .ok (.bipush 8, 2) := by decide +kernel
theorem dX12_least_24 : decode cX12_least 24 = .ok (.if_icmp .ge 47, 3) := by decide +kernel
theorem dX12_least_27 : decode cX12_least 27 = .ok (.iload_n 1, 1) := by decide +kernel
theorem dX12_least_28 : decode cX12_least 28 = .ok (.iload_n 2, 1) := by decide +kernel
theorem dX12_least_29 : decode cX12_least 29 = .ok (.ishr, 1) := by decide +kernel
theorem dX12_least_30 : decode cX12_least 30 = .ok (.iconst 1, 1) := by decide +kernel
theorem dX12_least_31 : decode cX12_least 31 = .ok (.iand, 1) := by decide +kernel
theorem dX12_least_32 : decode cX12_least 32 = .ok (.iconst 1, 1) := by decide +kernel
theorem dX12_least_33 : decode cX12_least 33 = .ok (.if_icmp .ne 32, 3) := by decide +kernel
theorem dX12_least_36 : decode cX12_least 36 = .ok (.aload_n 0, 1) := by decide +kernel
theorem dX12_least_37 : decode cX12_least 37 = .ok (.iload_n 2, 1) := by decide +kernel
theorem dX12_least_38 : decode cX12_least 38 = .ok (.invokevirtual 349, 3) := by decide +kernel
theorem dX12_least_41 : decode cX12_least 41 = .ok (.aload_n 0, 1) := by decide +kernel
theorem dX12_least_42 : decode cX12_least 42 = .ok (.getfield 74, 3) := by decide +kernel
theorem dX12_least_45 : decode cX12_least 45 = .ok (.iload_n 2, 1) := by decide +kernel
theorem dX12_least_46 : decode cX12_least 46 = .ok (.aload_n 0, 1) := by decide +kernel
theorem dX12_least_47 : decode cX12_least 47 = .ok (.getfield 71, 3) := by decide +kernel
theorem dX12_least_50 : decode cX12_least 50 = .ok (.iconst 0, 1) := by decide +kernel
theorem dX12_least_51 : decode cX12_least 51 = .ok (.iaload, 1) := by decide +kernel
theorem dX12_least_52 : decode cX12_least 52 = .ok (.iastore, 1) := by decide +kernel
theorem dX12_least_53 : decode cX12_least 53 = .ok (.aload_n 0, 1) := by decide +kernel
theorem dX12_least_54 : decode cX12_least 54 = .ok (.getfield 77, 3) := by decide +kernel
theorem dX12_least_57 : decode cX12_least 57 = .ok (.iload_n 2, 1) := by decide +kernel
theorem dX12_least_58 : decode cX12_least 58 = .ok (.aload_n 0, 1) := by decide +kernel
theorem dX12_least_59 : decode cX12_least 59 = .ok (.getfield 71, 3) := by decide +kernel
theorem dX12_least_62 : decode cX12_least 62 = .ok (.iconst 1, 1) := by decide +kernel
theorem dX12_least_63 : decode cX12_least 63 = .ok (.iaload, 1) := by decide +kernel
theorem dX12_least_64 : decode cX12_least 64 = .ok (.iastore, 1) := by decide +kernel
theorem dX12_least_65 : decode cX12_least 65 = .ok (.iinc 2 1, 3) := by decide +kernel
theorem dX12_least_68 : decode cX12_least 68 = .ok (.goto (-47), 3) := by decide +kernel
theorem dX12_least_71 : decode cX12_least 71 = .ok (.iconst (-1), 1) := by decide +kernel
theorem dX12_least_72 : decode cX12_least 72 = .ok (.istore_n 2, 1) := by decide +kernel
theorem dX12_least_73 : decode cX12_least 73 = .ok (.iconst 0, 1) := by decide +kernel
theorem dX12_least_74 : decode cX12_least 74 = .ok (.istore_n 3, 1) := by decide +kernel
theorem dX12_least_75 : decode cX12_least 75 = .ok (.iload_n 3, 1) := by decide +kernel
theorem dX12_least_76 : decode cX12_least 76 = .ok (.bipush 8, 2) := by decide +kernel
theorem dX12_least_78 : decode cX12_least 78 = .ok (.if_icmp .ge 95, 3) := by decide +kernel
theorem dX12_least_81 : decode cX12_least 81 = .ok (.iload_n 1, 1) := by decide +kernel
theorem dX12_least_82 : decode cX12_least 82 = .ok (.iload_n 3, 1) := by decide +kernel
theorem dX12_least_83 : decode cX12_least 83 = .ok (.ishr, 1) := by decide +kernel
theorem dX12_least_84 : decode cX12_least 84 = .ok (.iconst 1, 1) := by decide +kernel
theorem dX12_least_85 : decode cX12_least 85 = .ok (.iand, 1) := by decide +kernel
theorem dX12_least_86 : decode cX12_least 86 = .ok (.iconst 1, 1) := by decide +kernel
theorem dX12_least_87 : decode cX12_least 87 = .ok (.if_icmp .ne 7, 3) := by decide +kernel
theorem dX12_least_90 : decode cX12_least 90 = .ok (.iconst 1, 1) := by decide +kernel
theorem dX12_least_91 : decode cX12_least 91 = .ok (.goto 4, 3) := by decide +kernel
theorem dX12_least_94 : decode cX12_least 94 = .ok (.iconst 0, 1) := by decide +kernel
theorem dX12_least_95 : decode cX12_least 95 = .ok (.istore 4, 2) := by decide +kernel
theorem dX12_least_97 : decode cX12_least 97 = .ok (.iconst 0, 1) := by decide +kernel
theorem dX12_least_98 : decode cX12_least 98 = .ok (.istore 5, 2) := by decide +kernel
theorem dX12_least_100 : decode cX12_least 100 = .ok (.iload 5, 2) := by decide +kernel
theorem dX12_least_102 : decode cX12_least 102 = .ok (.bipush 8, 2) := by decide +kernel
theorem dX12_least_104 : decode cX12_least 104 = .ok (.if_icmp .ge 52, 3) := by decide +kernel
theorem dX12_least_107 : decode cX12_least 107 = .ok (.iload 4, 2) := by decide +kernel
theorem dX12_least_109 : decode cX12_least 109 = .ok (.ifCond .eq 38, 3) := by decide +kernel
theorem dX12_least_112 : decode cX12_least 112 = .ok (.iload 5, 2) := by decide +kernel
theorem dX12_least_114 : decode cX12_least 114 = .ok (.iload_n 3, 1) := by decide +kernel
theorem dX12_least_115 : decode cX12_least 115 = .ok (.if_icmp .eq 28, 3) := by decide +kernel
theorem dX12_least_118 : decode cX12_least 118 = .ok (.iload_n 1, 1) := by decide +kernel
theorem dX12_least_119 : decode cX12_least 119 = .ok (.iload 5, 2) := by decide +kernel
theorem dX12_least_121 : decode cX12_least 121 = .ok (.ishr, 1) := by decide +kernel
theorem dX12_least_122 : decode cX12_least 122 = .ok (.iconst 1, 1) := by decide +kernel
theorem dX12_least_123 : decode cX12_least 123 = .ok (.iand, 1) := by decide +kernel
theorem dX12_least_124 : decode cX12_least 124 = .ok (.ifCond .eq 19, 3) := by decide +kernel
theorem dX12_least_127 : decode cX12_least 127 = .ok (.aload_n 0, 1) := by decide +kernel
theorem dX12_least_128 : decode cX12_least 128 = .ok (.getfield 77, 3) := by decide +kernel
theorem dX12_least_131 : decode cX12_least 131 = .ok (.iload_n 3, 1) := by decide +kernel
theorem dX12_least_132 : decode cX12_least 132 = .ok (.iaload, 1) := by decide +kernel
theorem dX12_least_133 : decode cX12_least 133 = .ok (.aload_n 0, 1) := by decide +kernel
theorem dX12_least_134 : decode cX12_least 134 = .ok (.getfield 74, 3) := by decide +kernel
theorem dX12_least_137 : decode cX12_least 137 = .ok (.iload 5, 2) := by decide +kernel
theorem dX12_least_139 : decode cX12_least 139 = .ok (.iaload, 1) := by decide +kernel
theorem dX12_least_140 : decode cX12_least 140 = .ok (.if_icmp .ge 7, 3) := by decide +kernel
theorem dX12_least_143 : decode cX12_least 143 = .ok (.iconst 1, 1) := by decide +kernel
theorem dX12_least_144 : decode cX12_least 144 = .ok (.goto 4, 3) := by decide +kernel
theorem dX12_least_147 : decode cX12_least 147 = .ok (.iconst 0, 1) := by decide +kernel
theorem dX12_least_148 : decode cX12_least 148 = .ok (.istore 4, 2) := by decide +kernel
theorem dX12_least_150 : decode cX12_least 150 = .ok (.iinc 5 1, 3) := by decide +kernel
theorem dX12_least_153 : decode cX12_least 153 = .ok (.goto (-53), 3) := by decide +kernel
theorem dX12_least_156 : decode cX12_least 156 = .ok (.iload 4, 2) := by decide +kernel
theorem dX12_least_158 : decode cX12_least 158 = .ok (.ifCond .eq 7, 3) := by decide +kernel
theorem dX12_least_161 : decode cX12_least 161 = .ok (.iload_n 3, 1) := by decide +kernel
theorem dX12_least_162 : decode cX12_least 162 = .ok (.goto 4, 3) := by decide +kernel
theorem dX12_least_165 : decode cX12_least 165 = .ok (.iload_n 2, 1) := by decide +kernel
theorem dX12_least_166 : decode cX12_least 166 = .ok (.istore_n 2, 1) := by decide +kernel
theorem dX12_least_167 : decode cX12_least 167 = .ok (.iinc 3 1, 3) := by decide +kernel
theorem dX12_least_170 : decode cX12_least 170 = .ok (.goto (-95), 3) := by decide +kernel
theorem dX12_least_173 : decode cX12_least 173 = .ok (.iload_n 2, 1) := by decide +kernel
theorem dX12_least_174 : decode cX12_least 174 = .ok (.ireturn, 1) := by decide +kernel
theorem dX12_found_0 : decode cX12_found 0 = .ok (.aload_n 0, 1) := by decide +kernel
theorem dX12_found_1 : decode cX12_found 1 = .ok (.iconst 0, 1) := by decide +kernel
theorem dX12_found_2 : decode cX12_found 2 = .ok (.putfield 83, 3) := by decide +kernel
theorem dX12_found_5 : decode cX12_found 5 = .ok (.aload_n 0, 1) := by decide +kernel
theorem dX12_found_6 : decode cX12_found 6 = .ok (.iload_n 1, 1) := by decide +kernel
theorem dX12_found_7 : decode cX12_found 7 = .ok (.invokevirtual 332, 3) := by decide +kernel
theorem dX12_found_10 : decode cX12_found 10 = .ok (.ifCond .ne 7, 3) := by decide +kernel
theorem dX12_found_13 : decode cX12_found 13 = .ok (.ldc_w 337, 3) := by decide +kernel
theorem dX12_found_16 : decode cX12_found 16 = .ok (.ireturn, 1) := by decide +kernel
theorem dX12_found_17 : decode cX12_found 17 = .ok (.bipush 116, 2) := by decide +kernel
theorem dX12_found_19 : decode cX12_found 19 = .ok (.bipush 17, 2) := by decide +kernel
theorem dX12_found_21 : decode cX12_found 21 = .ok (.iload_n 1, 1) := by decide +kernel
theorem dX12_found_22 : decode cX12_found 22 = .ok (.imul, 1) := by decide +kernel
theorem dX12_found_23 : decode cX12_found 23 = .ok (.iadd, 1) := by decide +kernel
theorem dX12_found_24 : decode cX12_found 24 = .ok (.istore_n 3, 1) := by decide +kernel
theorem dX12_found_25 : decode cX12_found 25 = .ok (.iload_n 2, 1) := by decide +kernel
theorem dX12_found_26 : decode cX12_found 26 = .ok (.i2l, 1) := by decide +kernel
theorem dX12_found_27 : decode cX12_found 27 = .ok (.lconst 0, 1) := by decide +kernel
theorem dX12_found_28 : decode cX12_found 28 = .ok (.aload_n 0, 1) := by decide +kernel
theorem dX12_found_29 : decode cX12_found 29 = .ok (.getfield 13, 3) := by decide +kernel
theorem dX12_found_32 : decode cX12_found 32 = .ok (.iload_n 3, 1) := by decide +kernel
theorem dX12_found_33 : decode cX12_found 33 = .ok (.iaload, 1) := by decide +kernel
theorem dX12_found_34 : decode cX12_found 34 = .ok (.i2l, 1) := by decide +kernel
theorem dX12_found_35 : decode cX12_found 35 = .ok (.invokestatic 103, 3) := by decide +kernel
theorem dX12_found_38 : decode cX12_found 38 = .ok (.ifCond .eq 16, 3) := by decide +kernel
theorem dX12_found_41 : decode cX12_found 41 = .ok (.aload_n 0, 1) := by decide +kernel
theorem dX12_found_42 : decode cX12_found 42 = .ok (.getfield 13, 3) := by decide +kernel
theorem dX12_found_45 : decode cX12_found 45 = .ok (.iload_n 3, 1) := by decide +kernel
theorem dX12_found_46 : decode cX12_found 46 = .ok (.iconst 1, 1) := by decide +kernel
theorem dX12_found_47 : decode cX12_found 47 = .ok (.iadd, 1) := by decide +kernel
theorem dX12_found_48 : decode cX12_found 48 = .ok (.iload_n 2, 1) := by decide +kernel
theorem dX12_found_49 : decode cX12_found 49 = .ok (.iadd, 1) := by decide +kernel
theorem dX12_found_50 : decode cX12_found 50 = .ok (.iaload, 1) := by decide +kernel
theorem dX12_found_51 : decode cX12_found 51 = .ok (.goto 33, 3) := by decide +kernel
theorem dX12_found_54 : decode cX12_found 54 = .ok (.iload_n 2, 1) := by decide +kernel
theorem dX12_found_55 : decode cX12_found 55 = .ok (.i2l, 1) := by decide +kernel
theorem dX12_found_56 : decode cX12_found 56 = .ok (.ldc2_w 367, 3) := by decide +kernel
theorem dX12_found_59 : decode cX12_found 59 = .ok (.ldc2_w 369, 3) := by decide +kernel
theorem dX12_found_62 : decode cX12_found 62 = .ok (.invokestatic 103, 3) := by decide +kernel
theorem dX12_found_65 : decode cX12_found 65 = .ok (.ifCond .eq 16, 3) := by decide +kernel
theorem dX12_found_68 : decode cX12_found 68 = .ok (.aload_n 0, 1) := by decide +kernel
theorem dX12_found_69 : decode cX12_found 69 = .ok (.getfield 13, 3) := by decide +kernel
theorem dX12_found_72 : decode cX12_found 72 = .ok (.iload_n 3, 1) := by decide +kernel
theorem dX12_found_73 : decode cX12_found 73 = .ok (.iconst 1, 1) := by decide +kernel
theorem dX12_found_74 : decode cX12_found 74 = .ok (.iadd, 1) := by decide +kernel
theorem dX12_found_75 : decode cX12_found 75 = .ok (.iload_n 2, 1) := by decide +kernel
theorem dX12_found_76 : decode cX12_found 76 = .ok (.iadd, 1) := by decide +kernel
theorem dX12_found_77 : decode cX12_found 77 = .ok (.iaload, 1) := by decide +kernel
theorem dX12_found_78 : decode cX12_found 78 = .ok (.goto 6, 3) := by decide +kernel
theorem dX12_found_81 : decode cX12_found 81 = .ok (.ldc_w 337, 3) := by decide +kernel
theorem dX12_found_84 : decode cX12_found 84 = .ok (.ireturn, 1) := by decide +kernel
theorem dX12_smallest_0 : decode cX12_smallest 0 = .ok (.aload_n 0, 1) := by decide +kernel
theorem dX12_smallest_1 : decode cX12_smallest 1 = .ok (.iconst 0, 1) := by decide +kernel
theorem dX12_smallest_2 : decode cX12_smallest 2 = .ok (.putfield 83, 3) := by decide +kernel
theorem dX12_smallest_5 : decode cX12_smallest 5 = .ok (.aload_n 0, 1) := by decide +kernel
theorem dX12_smallest_6 : decode cX12_smallest 6 = .ok (.getfield 13, 3) := by decide +kernel
theorem dX12_smallest_9 : decode cX12_smallest 9 = .ok (.bipush 112, 2) := by decide +kernel
theorem dX12_smallest_11 : decode cX12_smallest 11 = .ok (.iaload, 1) := by decide +kernel
theorem dX12_smallest_12 : decode cX12_smallest 12 = .ok (.ifCond .eq 15, 3) := by decide +kernel
theorem dX12_smallest_15 : decode cX12_smallest 15 = .ok (.iload_n 1, 1) := by decide +kernel
theorem dX12_smallest_16 : decode cX12_smallest 16 = .ok (.i2l, 1) := by decide +kernel
theorem dX12_smallest_17 : decode cX12_smallest 17 = .ok (.lconst 0, 1) := by decide +kernel
theorem dX12_smallest_18 : decode cX12_smallest 18 = .ok (.ldc2_w 318, 3) := by decide +kernel
theorem dX12_smallest_21 : decode cX12_smallest 21 = .ok (.invokestatic 103, 3) := by decide +kernel
theorem dX12_smallest_24 : decode cX12_smallest 24 = .ok (.ifCond .ne 5, 3) := by decide +kernel
theorem dX12_smallest_27 : decode cX12_smallest 27 = .ok (.iconst (-1), 1) := by decide +kernel
theorem dX12_smallest_28 : decode cX12_smallest 28 = .ok (.ireturn, 1) := by decide +kernel
theorem dX12_smallest_29 : decode cX12_smallest 29 = .ok (.iconst 0, 1) := by decide +kernel
theorem dX12_smallest_30 : decode cX12_smallest 30 = .ok (.istore_n 2, 1) := by decide +kernel
theorem dX12_smallest_31 : decode cX12_smallest 31 = .ok (.iconst 0, 1) := by decide +kernel
theorem dX12_smallest_32 : decode cX12_smallest 32 = .ok (.istore_n 3, 1) := by decide +kernel
theorem dX12_smallest_33 : decode cX12_smallest 33 = .ok (.iconst 0, 1) := by decide +kernel
theorem dX12_smallest_34 : decode cX12_smallest 34 = .ok (.istore 4, 2) := by decide +kernel
theorem dX12_smallest_36 : decode cX12_smallest 36 = .ok (.iload 4, 2) := by decide +kernel
theorem dX12_smallest_38 : decode cX12_smallest 38 = .ok (.aload_n 0, 1) := by decide +kernel
theorem dX12_smallest_39 : decode cX12_smallest 39 = .ok (.getfield 13, 3) := by decide +kernel
theorem dX12_smallest_42 : decode cX12_smallest 42 = .ok (.bipush 112, 2) := by decide +kernel
theorem dX12_smallest_44 : decode cX12_smallest 44 = .ok (.iaload, 1) := by decide +kernel
theorem dX12_smallest_45 : decode cX12_smallest 45 = .ok (.if_icmp .ge 50, 3) := by decide +kernel
theorem dX12_smallest_48 : decode cX12_smallest 48 = .ok (.aload_n 0, 1) := by decide +kernel
theorem dX12_smallest_49 : decode cX12_smallest 49 = .ok (.getfield 13, 3) := by decide +kernel
theorem dX12_smallest_52 : decode cX12_smallest 52 = .ok (.bipush 116, 2) := by decide +kernel
theorem dX12_smallest_54 : decode cX12_smallest 54 = .ok (.bipush 17, 2) := by decide +kernel
theorem dX12_smallest_56 : decode cX12_smallest 56 = .ok (.iload 4, 2) := by decide +kernel
theorem dX12_smallest_58 : decode cX12_smallest 58 = .ok (.imul, 1) := by decide +kernel
theorem dX12_smallest_59 : decode cX12_smallest 59 = .ok (.iadd, 1) := by decide +kernel
theorem dX12_smallest_60 : decode cX12_smallest 60 = .ok (.bipush 14, 2) := by decide +kernel
theorem dX12_smallest_62 : decode cX12_smallest 62 = .ok (.iadd, 1) := by decide +kernel
theorem dX12_smallest_63 : decode cX12_smallest 63 = .ok (.iaload, 1) := by decide +kernel
theorem dX12_smallest_64 : decode cX12_smallest 64 = .ok (.aload_n 0, 1) := by decide +kernel
theorem dX12_smallest_65 : decode cX12_smallest 65 = .ok (.getfield 13, 3) := by decide +kernel
theorem dX12_smallest_68 : decode cX12_smallest 68 = .ok (.bipush 116, 2) := by decide +kernel
theorem dX12_smallest_70 : decode cX12_smallest 70 = .ok (.bipush 17, 2) := by decide +kernel
theorem dX12_smallest_72 : decode cX12_smallest 72 = .ok (.iload_n 2, 1) := by decide +kernel
theorem dX12_smallest_73 : decode cX12_smallest 73 = .ok (.imul, 1) := by decide +kernel
theorem dX12_smallest_74 : decode cX12_smallest 74 = .ok (.iadd, 1) := by decide +kernel
theorem dX12_smallest_75 : decode cX12_smallest 75 = .ok (.bipush 14, 2) := by decide +kernel
theorem dX12_smallest_77 : decode cX12_smallest 77 = .ok (.iadd, 1) := by decide +kernel
theorem dX12_smallest_78 : decode cX12_smallest 78 = .ok (.iaload, 1) := by decide +kernel
theorem dX12_smallest_79 : decode cX12_smallest 79 = .ok (.if_icmp .ge 8, 3) := by decide +kernel
theorem dX12_smallest_82 : decode cX12_smallest 82 = .ok (.iload 4, 2) := by decide +kernel
theorem dX12_smallest_84 : decode cX12_smallest 84 = .ok (.goto 4, 3) := by decide +kernel
theorem dX12_smallest_87 : decode cX12_smallest 87 = .ok (.iload_n 2, 1) := by decide +kernel
theorem dX12_smallest_88 : decode cX12_smallest 88 = .ok (.istore_n 2, 1) := by decide +kernel
theorem dX12_smallest_89 : decode cX12_smallest 89 = .ok (.iinc 4 1, 3) := by decide +kernel
theorem dX12_smallest_92 : decode cX12_smallest 92 = .ok (.goto (-56), 3) := by decide +kernel
theorem dX12_smallest_95 : decode cX12_smallest 95 = .ok (.aload_n 0, 1) := by decide +kernel
theorem dX12_smallest_96 : decode cX12_smallest 96 = .ok (.getfield 13, 3) := by decide +kernel
theorem dX12_smallest_99 : decode cX12_smallest 99 = .ok (.bipush 116, 2) := by decide +kernel
theorem dX12_smallest_101 : decode cX12_smallest 101 = .ok (.bipush 17, 2) := by decide +kernel
theorem dX12_smallest_103 : decode cX12_smallest 103 = .ok (.iload_n 2, 1) := by decide +kernel
theorem dX12_smallest_104 : decode cX12_smallest 104 = .ok (.imul, 1) := by decide +kernel
theorem dX12_smallest_105 : decode cX12_smallest 105 = .ok (.iadd, 1) := by decide +kernel
theorem dX12_smallest_106 : decode cX12_smallest 106 = .ok (.bipush 14, 2) := by decide +kernel
theorem dX12_smallest_108 : decode cX12_smallest 108 = .ok (.iadd, 1) := by decide +kernel
theorem dX12_smallest_109 : decode cX12_smallest 109 = .ok (.iaload, 1) := by decide +kernel
theorem dX12_smallest_110 : decode cX12_smallest 110 = .ok (.istore 4, 2) := by decide +kernel
theorem dX12_smallest_112 : decode cX12_smallest 112 = .ok (.iconst 0, 1) := by decide +kernel
theorem dX12_smallest_113 : decode cX12_smallest 113 = .ok (.istore 5, 2) := by decide +kernel
theorem dX12_smallest_115 : decode cX12_smallest 115 = .ok (.iload 5, 2) := by decide +kernel
theorem dX12_smallest_117 : decode cX12_smallest 117 = .ok (.aload_n 0, 1) := by decide +kernel
theorem dX12_smallest_118 : decode cX12_smallest 118 = .ok (.getfield 13, 3) := by decide +kernel
theorem dX12_smallest_121 : decode cX12_smallest 121 = .ok (.bipush 112, 2) := by decide +kernel
theorem dX12_smallest_123 : decode cX12_smallest 123 = .ok (.iaload, 1) := by decide +kernel
theorem dX12_smallest_124 : decode cX12_smallest 124 = .ok (.if_icmp .ge 38, 3) := by decide +kernel
theorem dX12_smallest_127 : decode cX12_smallest 127 = .ok (.iload_n 3, 1) := by decide +kernel
theorem dX12_smallest_128 : decode cX12_smallest 128 = .ok (.aload_n 0, 1) := by decide +kernel
theorem dX12_smallest_129 : decode cX12_smallest 129 = .ok (.getfield 13, 3) := by decide +kernel
theorem dX12_smallest_132 : decode cX12_smallest 132 = .ok (.bipush 116, 2) := by decide +kernel
theorem dX12_smallest_134 : decode cX12_smallest 134 = .ok (.bipush 17, 2) := by decide +kernel
theorem dX12_smallest_136 : decode cX12_smallest 136 = .ok (.iload 5, 2) := by decide +kernel
theorem dX12_smallest_138 : decode cX12_smallest 138 = .ok (.imul, 1) := by decide +kernel
theorem dX12_smallest_139 : decode cX12_smallest 139 = .ok (.iadd, 1) := by decide +kernel
theorem dX12_smallest_140 : decode cX12_smallest 140 = .ok (.bipush 14, 2) := by decide +kernel
theorem dX12_smallest_142 : decode cX12_smallest 142 = .ok (.iadd, 1) := by decide +kernel
theorem dX12_smallest_143 : decode cX12_smallest 143 = .ok (.iaload, 1) := by decide +kernel
theorem dX12_smallest_144 : decode cX12_smallest 144 = .ok (.iload 4, 2) := by decide +kernel
theorem dX12_smallest_146 : decode cX12_smallest 146 = .ok (.if_icmp .ne 7, 3) := by decide +kernel
theorem dX12_smallest_149 : decode cX12_smallest 149 = .ok (.iconst 1, 1) := by decide +kernel
theorem dX12_smallest_150 : decode cX12_smallest 150 = .ok (.goto 4, 3) := by decide +kernel
theorem dX12_smallest_153 : decode cX12_smallest 153 = .ok (.iconst 0, 1) := by decide +kernel
theorem dX12_smallest_154 : decode cX12_smallest 154 = .ok (.iadd, 1) := by decide +kernel
theorem dX12_smallest_155 : decode cX12_smallest 155 = .ok (.istore_n 3, 1) := by decide +kernel
theorem dX12_smallest_156 : decode cX12_smallest 156 = .ok (.iinc 5 1, 3) := by decide +kernel
theorem dX12_smallest_159 : decode cX12_smallest 159 = .ok (.goto (-44), 3) := by decide +kernel
theorem dX12_smallest_162 : decode cX12_smallest 162 = .ok (.iload_n 1, 1) := by decide +kernel
theorem dX12_smallest_163 : decode cX12_smallest 163 = .ok (.ifCond .ne 7, 3) := by decide +kernel
theorem dX12_smallest_166 : decode cX12_smallest 166 = .ok (.iload_n 3, 1) := by decide +kernel
theorem dX12_smallest_167 : decode cX12_smallest 167 = .ok (.goto 14, 3) := by decide +kernel
theorem dX12_smallest_170 : decode cX12_smallest 170 = .ok (.iload_n 1, 1) := by decide +kernel
theorem dX12_smallest_171 : decode cX12_smallest 171 = .ok (.iconst 1, 1) := by decide +kernel
theorem dX12_smallest_172 : decode cX12_smallest 172 = .ok (.if_icmp .ne 7, 3) := by decide +kernel
theorem dX12_smallest_175 : decode cX12_smallest 175 = .ok (.iload_n 2, 1) := by decide +kernel
theorem dX12_smallest_176 : decode cX12_smallest 176 = .ok (.goto 5, 3) := by decide +kernel
theorem dX12_smallest_179 : decode cX12_smallest 179 = .ok (.iload 4, 2) := by decide +kernel
theorem dX12_smallest_181 : decode cX12_smallest 181 = .ok (.ireturn, 1) := by decide +kernel
theorem dX12_count_0 : decode cX12_count 0 = .ok (.aload_n 0, 1) := by decide +kernel
theorem dX12_count_1 : decode cX12_count 1 = .ok (.iconst 0, 1) := by decide +kernel
theorem dX12_count_2 : decode cX12_count 2 = .ok (.putfield 83, 3) := by decide +kernel
theorem dX12_count_5 : decode cX12_count 5 = .ok (.iload_n 1, 1) := by decide +kernel
theorem dX12_count_6 : decode cX12_count 6 = .ok (.tableswitch 136 8 18 #[58, 66, 74, 82, 90, 95, 100, 107, 114, 121, 128], 58) := by decide +kernel
theorem dX12_count_64 : decode cX12_count 64 = .ok (.aload_n 0, 1) := by decide +kernel
theorem dX12_count_65 : decode cX12_count 65 = .ok (.getfield 13, 3) := by decide +kernel
theorem dX12_count_68 : decode cX12_count 68 = .ok (.bipush 112, 2) := by decide +kernel
theorem dX12_count_70 : decode cX12_count 70 = .ok (.iaload, 1) := by decide +kernel
theorem dX12_count_71 : decode cX12_count 71 = .ok (.ireturn, 1) := by decide +kernel
theorem dX12_count_72 : decode cX12_count 72 = .ok (.aload_n 0, 1) := by decide +kernel
theorem dX12_count_73 : decode cX12_count 73 = .ok (.getfield 13, 3) := by decide +kernel
theorem dX12_count_76 : decode cX12_count 76 = .ok (.bipush 113, 2) := by decide +kernel
theorem dX12_count_78 : decode cX12_count 78 = .ok (.iaload, 1) := by decide +kernel
theorem dX12_count_79 : decode cX12_count 79 = .ok (.ireturn, 1) := by decide +kernel
theorem dX12_count_80 : decode cX12_count 80 = .ok (.aload_n 0, 1) := by decide +kernel
theorem dX12_count_81 : decode cX12_count 81 = .ok (.getfield 13, 3) := by decide +kernel
theorem dX12_count_84 : decode cX12_count 84 = .ok (.bipush 114, 2) := by decide +kernel
theorem dX12_count_86 : decode cX12_count 86 = .ok (.iaload, 1) := by decide +kernel
theorem dX12_count_87 : decode cX12_count 87 = .ok (.ireturn, 1) := by decide +kernel
theorem dX12_count_88 : decode cX12_count 88 = .ok (.aload_n 0, 1) := by decide +kernel
theorem dX12_count_89 : decode cX12_count 89 = .ok (.getfield 13, 3) := by decide +kernel
theorem dX12_count_92 : decode cX12_count 92 = .ok (.bipush 115, 2) := by decide +kernel
theorem dX12_count_94 : decode cX12_count 94 = .ok (.iaload, 1) := by decide +kernel
theorem dX12_count_95 : decode cX12_count 95 = .ok (.ireturn, 1) := by decide +kernel
theorem dX12_count_96 : decode cX12_count 96 = .ok (.aload_n 0, 1) := by decide +kernel
theorem dX12_count_97 : decode cX12_count 97 = .ok (.getfield 89, 3) := by decide +kernel
theorem dX12_count_100 : decode cX12_count 100 = .ok (.ireturn, 1) := by decide +kernel
theorem dX12_count_101 : decode cX12_count 101 = .ok (.aload_n 0, 1) := by decide +kernel
theorem dX12_count_102 : decode cX12_count 102 = .ok (.getfield 249, 3) := by decide +kernel
theorem dX12_count_105 : decode cX12_count 105 = .ok (.ireturn, 1) := by decide +kernel
theorem dX12_count_106 : decode cX12_count 106 = .ok (.aload_n 0, 1) := by decide +kernel
theorem dX12_count_107 : decode cX12_count 107 = .ok (.getfield 7, 3) := by decide +kernel
theorem dX12_count_110 : decode cX12_count 110 = .ok (.iconst 1, 1) := by decide +kernel
theorem dX12_count_111 : decode cX12_count 111 = .ok (.iaload, 1) := by decide +kernel
theorem dX12_count_112 : decode cX12_count 112 = .ok (.ireturn, 1) := by decide +kernel
theorem dX12_count_113 : decode cX12_count 113 = .ok (.aload_n 0, 1) := by decide +kernel
theorem dX12_count_114 : decode cX12_count 114 = .ok (.getfield 7, 3) := by decide +kernel
theorem dX12_count_117 : decode cX12_count 117 = .ok (.iconst 2, 1) := by decide +kernel
theorem dX12_count_118 : decode cX12_count 118 = .ok (.iaload, 1) := by decide +kernel
theorem dX12_count_119 : decode cX12_count 119 = .ok (.ireturn, 1) := by decide +kernel
theorem dX12_count_120 : decode cX12_count 120 = .ok (.aload_n 0, 1) := by decide +kernel
theorem dX12_count_121 : decode cX12_count 121 = .ok (.getfield 7, 3) := by decide +kernel
theorem dX12_count_124 : decode cX12_count 124 = .ok (.iconst 4, 1) := by decide +kernel
theorem dX12_count_125 : decode cX12_count 125 = .ok (.iaload, 1) := by decide +kernel
theorem dX12_count_126 : decode cX12_count 126 = .ok (.ireturn, 1) := by decide +kernel
theorem dX12_count_127 : decode cX12_count 127 = .ok (.aload_n 0, 1) := by decide +kernel
theorem dX12_count_128 : decode cX12_count 128 = .ok (.getfield 7, 3) := by decide +kernel
theorem dX12_count_131 : decode cX12_count 131 = .ok (.iconst 5, 1) := by decide +kernel
theorem dX12_count_132 : decode cX12_count 132 = .ok (.iaload, 1) := by decide +kernel
theorem dX12_count_133 : decode cX12_count 133 = .ok (.ireturn, 1) := by decide +kernel
theorem dX12_count_134 : decode cX12_count 134 = .ok (.aload_n 0, 1) := by decide +kernel
theorem dX12_count_135 : decode cX12_count 135 = .ok (.getfield 7, 3) := by decide +kernel
theorem dX12_count_138 : decode cX12_count 138 = .ok (.bipush 6, 2) := by decide +kernel
theorem dX12_count_140 : decode cX12_count 140 = .ok (.iaload, 1) := by decide +kernel
theorem dX12_count_141 : decode cX12_count 141 = .ok (.ireturn, 1) := by decide +kernel
theorem dX12_count_142 : decode cX12_count 142 = .ok (.iload_n 1, 1) := by decide +kernel
theorem dX12_count_143 : decode cX12_count 143 = .ok (.i2l, 1) := by decide +kernel
theorem dX12_count_144 : decode cX12_count 144 = .ok (.lconst 0, 1) := by decide +kernel
theorem dX12_count_145 : decode cX12_count 145 = .ok (.ldc2_w 111, 3) := by decide +kernel
theorem dX12_count_148 : decode cX12_count 148 = .ok (.invokestatic 103, 3) := by decide +kernel
theorem dX12_count_151 : decode cX12_count 151 = .ok (.ifCond .eq 11, 3) := by decide +kernel
theorem dX12_count_154 : decode cX12_count 154 = .ok (.aload_n 0, 1) := by decide +kernel
theorem dX12_count_155 : decode cX12_count 155 = .ok (.iload_n 1, 1) := by decide +kernel
theorem dX12_count_156 : decode cX12_count 156 = .ok (.invokevirtual 119, 3) := by decide +kernel
theorem dX12_count_159 : decode cX12_count 159 = .ok (.goto 4, 3) := by decide +kernel
theorem dX12_count_162 : decode cX12_count 162 = .ok (.iconst (-1), 1) := by decide +kernel
theorem dX12_count_163 : decode cX12_count 163 = .ok (.ireturn, 1) := by decide +kernel
theorem dX12_status_0 : decode cX12_status 0 = .ok (.aload_n 0, 1) := by decide +kernel
theorem dX12_status_1 : decode cX12_status 1 = .ok (.iconst 0, 1) := by decide +kernel
theorem dX12_status_2 : decode cX12_status 2 = .ok (.putfield 83, 3) := by decide +kernel
theorem dX12_status_5 : decode cX12_status 5 = .ok (.aload_n 0, 1) := by decide +kernel
theorem dX12_status_6 : decode cX12_status 6 = .ok (.getfield 86, 3) := by decide +kernel
theorem dX12_status_9 : decode cX12_status 9 = .ok (.ireturn, 1) := by decide +kernel
theorem dL_law_0 : decode cL_law 0 = .ok (.new 7, 3) := by decide +kernel
theorem dL_law_3 : decode cL_law 3 = .ok (.dup, 1) := by decide +kernel
theorem dL_law_4 : decode cL_law 4 = .ok (.invokespecial 9, 3) := by decide +kernel
theorem dL_law_7 : decode cL_law 7 = .ok (.astore_n 1, 1) := by decide +kernel
theorem dL_law_8 : decode cL_law 8 = .ok (.new 10, 3) := by decide +kernel
theorem dL_law_11 : decode cL_law 11 = .ok (.dup, 1) := by decide +kernel
theorem dL_law_12 : decode cL_law 12 = .ok (.invokespecial 12, 3) := by decide +kernel
theorem dL_law_15 : decode cL_law 15 = .ok (.astore_n 2, 1) := by decide +kernel
theorem dL_law_16 : decode cL_law 16 = .ok (.iconst 0, 1) := by decide +kernel
theorem dL_law_17 : decode cL_law 17 = .ok (.istore_n 3, 1) := by decide +kernel
theorem dL_law_18 : decode cL_law 18 = .ok (.iload_n 3, 1) := by decide +kernel
theorem dL_law_19 : decode cL_law 19 = .ok (.aload_n 0, 1) := by decide +kernel
theorem dL_law_20 : decode cL_law 20 = .ok (.arraylength, 1) := by decide +kernel
theorem dL_law_21 : decode cL_law 21 = .ok (.bipush 6, 2) := by decide +kernel
theorem dL_law_23 : decode cL_law 23 = .ok (.isub, 1) := by decide +kernel
theorem dL_law_24 : decode cL_law 24 = .ok (.if_icmp .gt 1233, 3) := by decide +kernel
theorem dL_law_27 : decode cL_law 27 = .ok (.aload_n 0, 1) := by decide +kernel
theorem dL_law_28 : decode cL_law 28 = .ok (.iload_n 3, 1) := by decide +kernel
theorem dL_law_29 : decode cL_law 29 = .ok (.iaload, 1) := by decide +kernel
theorem dL_law_30 : decode cL_law 30 = .ok (.bipush 63, 2) := by decide +kernel
theorem dL_law_32 : decode cL_law 32 = .ok (.iand, 1) := by decide +kernel
theorem dL_law_33 : decode cL_law 33 = .ok (.tableswitch 1218 0 32 #[147, 210, 233, 256, 279, 292, 315, 358, 401, 454, 497, 530, 563, 616, 649, 662, 685, 708, 741, 774, 818, 851, 884, 917, 950, 984, 1017, 1060, 1103, 1126, 1159, 1182, 1205], 147) := by decide +kernel
theorem dL_law_180 : decode cL_law 180 = .ok (.aload_n 1, 1) := by decide +kernel
theorem dL_law_181 : decode cL_law 181 = .ok (.aload_n 0, 1) := by decide +kernel
theorem dL_law_182 : decode cL_law 182 = .ok (.iload_n 3, 1) := by decide +kernel
theorem dL_law_183 : decode cL_law 183 = .ok (.iconst 1, 1) := by decide +kernel
theorem dL_law_184 : decode cL_law 184 = .ok (.iadd, 1) := by decide +kernel
theorem dL_law_185 : decode cL_law 185 = .ok (.iaload, 1) := by decide +kernel
theorem dL_law_186 : decode cL_law 186 = .ok (.aload_n 0, 1) := by decide +kernel
theorem dL_law_187 : decode cL_law 187 = .ok (.iload_n 3, 1) := by decide +kernel
theorem dL_law_188 : decode cL_law 188 = .ok (.iconst 2, 1) := by decide +kernel
theorem dL_law_189 : decode cL_law 189 = .ok (.iadd, 1) := by decide +kernel
theorem dL_law_190 : decode cL_law 190 = .ok (.iaload, 1) := by decide +kernel
theorem dL_law_191 : decode cL_law 191 = .ok (.aload_n 0, 1) := by decide +kernel
theorem dL_law_192 : decode cL_law 192 = .ok (.iload_n 3, 1) := by decide +kernel
theorem dL_law_193 : decode cL_law 193 = .ok (.iconst 3, 1) := by decide +kernel
theorem dL_law_194 : decode cL_law 194 = .ok (.iadd, 1) := by decide +kernel
theorem dL_law_195 : decode cL_law 195 = .ok (.iaload, 1) := by decide +kernel
theorem dL_law_196 : decode cL_law 196 = .ok (.aload_n 0, 1) := by decide +kernel
theorem dL_law_197 : decode cL_law 197 = .ok (.iload_n 3, 1) := by decide +kernel
theorem dL_law_198 : decode cL_law 198 = .ok (.iconst 4, 1) := by decide +kernel
theorem dL_law_199 : decode cL_law 199 = .ok (.iadd, 1) := by decide +kernel
theorem dL_law_200 : decode cL_law 200 = .ok (.iaload, 1) := by decide +kernel
theorem dL_law_201 : decode cL_law 201 = .ok (.aload_n 0, 1) := by decide +kernel
theorem dL_law_202 : decode cL_law 202 = .ok (.iload_n 3, 1) := by decide +kernel
theorem dL_law_203 : decode cL_law 203 = .ok (.iconst 5, 1) := by decide +kernel
theorem dL_law_204 : decode cL_law 204 = .ok (.iadd, 1) := by decide +kernel
theorem dL_law_205 : decode cL_law 205 = .ok (.iaload, 1) := by decide +kernel
theorem dL_law_206 : decode cL_law 206 = .ok (.invokevirtual 13, 3) := by decide +kernel
theorem dL_law_209 : decode cL_law 209 = .ok (.aload_n 2, 1) := by decide +kernel
theorem dL_law_210 : decode cL_law 210 = .ok (.aload_n 0, 1) := by decide +kernel
theorem dL_law_211 : decode cL_law 211 = .ok (.iload_n 3, 1) := by decide +kernel
theorem dL_law_212 : decode cL_law 212 = .ok (.iconst 1, 1) := by decide +kernel
theorem dL_law_213 : decode cL_law 213 = .ok (.iadd, 1) := by decide +kernel
theorem dL_law_214 : decode cL_law 214 = .ok (.iaload, 1) := by decide +kernel
theorem dL_law_215 : decode cL_law 215 = .ok (.aload_n 0, 1) := by decide +kernel
theorem dL_law_216 : decode cL_law 216 = .ok (.iload_n 3, 1) := by decide +kernel
theorem dL_law_217 : decode cL_law 217 = .ok (.iconst 2, 1) := by decide +kernel
theorem dL_law_218 : decode cL_law 218 = .ok (.iadd, 1) := by decide +kernel
theorem dL_law_219 : decode cL_law 219 = .ok (.iaload, 1) := by decide +kernel
theorem dL_law_220 : decode cL_law 220 = .ok (.aload_n 0, 1) := by decide +kernel
theorem dL_law_221 : decode cL_law 221 = .ok (.iload_n 3, 1) := by decide +kernel
theorem dL_law_222 : decode cL_law 222 = .ok (.iconst 3, 1) := by decide +kernel
theorem dL_law_223 : decode cL_law 223 = .ok (.iadd, 1) := by decide +kernel
theorem dL_law_224 : decode cL_law 224 = .ok (.iaload, 1) := by decide +kernel
theorem dL_law_225 : decode cL_law 225 = .ok (.aload_n 0, 1) := by decide +kernel
theorem dL_law_226 : decode cL_law 226 = .ok (.iload_n 3, 1) := by decide +kernel
theorem dL_law_227 : decode cL_law 227 = .ok (.iconst 4, 1) := by decide +kernel
theorem dL_law_228 : decode cL_law 228 = .ok (.iadd, 1) := by decide +kernel
theorem dL_law_229 : decode cL_law 229 = .ok (.iaload, 1) := by decide +kernel
theorem dL_law_230 : decode cL_law 230 = .ok (.aload_n 0, 1) := by decide +kernel
theorem dL_law_231 : decode cL_law 231 = .ok (.iload_n 3, 1) := by decide +kernel
theorem dL_law_232 : decode cL_law 232 = .ok (.iconst 5, 1) := by decide +kernel
theorem dL_law_233 : decode cL_law 233 = .ok (.iadd, 1) := by decide +kernel
theorem dL_law_234 : decode cL_law 234 = .ok (.iaload, 1) := by decide +kernel
theorem dL_law_235 : decode cL_law 235 = .ok (.invokevirtual 17, 3) := by decide +kernel
theorem dL_law_238 : decode cL_law 238 = .ok (.if_icmp .eq 1013, 3) := by decide +kernel
theorem dL_law_241 : decode cL_law 241 = .ok (.iconst 0, 1) := by decide +kernel
theorem dL_law_242 : decode cL_law 242 = .ok (.ireturn, 1) := by decide +kernel
theorem dL_law_243 : decode cL_law 243 = .ok (.aload_n 1, 1) := by decide +kernel
theorem dL_law_244 : decode cL_law 244 = .ok (.aload_n 0, 1) := by decide +kernel
theorem dL_law_245 : decode cL_law 245 = .ok (.iload_n 3, 1) := by decide +kernel
theorem dL_law_246 : decode cL_law 246 = .ok (.iconst 1, 1) := by decide +kernel
theorem dL_law_247 : decode cL_law 247 = .ok (.iadd, 1) := by decide +kernel
theorem dL_law_248 : decode cL_law 248 = .ok (.iaload, 1) := by decide +kernel
theorem dL_law_249 : decode cL_law 249 = .ok (.invokevirtual 18, 3) := by decide +kernel
theorem dL_law_252 : decode cL_law 252 = .ok (.aload_n 2, 1) := by decide +kernel
theorem dL_law_253 : decode cL_law 253 = .ok (.aload_n 0, 1) := by decide +kernel
theorem dL_law_254 : decode cL_law 254 = .ok (.iload_n 3, 1) := by decide +kernel
theorem dL_law_255 : decode cL_law 255 = .ok (.iconst 1, 1) := by decide +kernel
theorem dL_law_256 : decode cL_law 256 = .ok (.iadd, 1) := by decide +kernel
theorem dL_law_257 : decode cL_law 257 = .ok (.iaload, 1) := by decide +kernel
theorem dL_law_258 : decode cL_law 258 = .ok (.invokevirtual 22, 3) := by decide +kernel
theorem dL_law_261 : decode cL_law 261 = .ok (.if_icmp .eq 990, 3) := by decide +kernel
theorem dL_law_264 : decode cL_law 264 = .ok (.iconst 0, 1) := by decide +kernel
theorem dL_law_265 : decode cL_law 265 = .ok (.ireturn, 1) := by decide +kernel
theorem dL_law_266 : decode cL_law 266 = .ok (.aload_n 1, 1) := by decide +kernel
theorem dL_law_267 : decode cL_law 267 = .ok (.aload_n 0, 1) := by decide +kernel
theorem dL_law_268 : decode cL_law 268 = .ok (.iload_n 3, 1) := by decide +kernel
theorem dL_law_269 : decode cL_law 269 = .ok (.iconst 1, 1) := by decide +kernel
theorem dL_law_270 : decode cL_law 270 = .ok (.iadd, 1) := by decide +kernel
theorem dL_law_271 : decode cL_law 271 = .ok (.iaload, 1) := by decide +kernel
theorem dL_law_272 : decode cL_law 272 = .ok (.invokevirtual 23, 3) := by decide +kernel
theorem dL_law_275 : decode cL_law 275 = .ok (.aload_n 2, 1) := by decide +kernel
theorem dL_law_276 : decode cL_law 276 = .ok (.aload_n 0, 1) := by decide +kernel
theorem dL_law_277 : decode cL_law 277 = .ok (.iload_n 3, 1) := by decide +kernel
theorem dL_law_278 : decode cL_law 278 = .ok (.iconst 1, 1) := by decide +kernel
theorem dL_law_279 : decode cL_law 279 = .ok (.iadd, 1) := by decide +kernel
theorem dL_law_280 : decode cL_law 280 = .ok (.iaload, 1) := by decide +kernel
theorem dL_law_281 : decode cL_law 281 = .ok (.invokevirtual 26, 3) := by decide +kernel
theorem dL_law_284 : decode cL_law 284 = .ok (.if_icmp .eq 967, 3) := by decide +kernel
theorem dL_law_287 : decode cL_law 287 = .ok (.iconst 0, 1) := by decide +kernel
theorem dL_law_288 : decode cL_law 288 = .ok (.ireturn, 1) := by decide +kernel
theorem dL_law_289 : decode cL_law 289 = .ok (.aload_n 1, 1) := by decide +kernel
theorem dL_law_290 : decode cL_law 290 = .ok (.aload_n 0, 1) := by decide +kernel
theorem dL_law_291 : decode cL_law 291 = .ok (.iload_n 3, 1) := by decide +kernel
theorem dL_law_292 : decode cL_law 292 = .ok (.iconst 1, 1) := by decide +kernel
theorem dL_law_293 : decode cL_law 293 = .ok (.iadd, 1) := by decide +kernel
theorem dL_law_294 : decode cL_law 294 = .ok (.iaload, 1) := by decide +kernel
theorem dL_law_295 : decode cL_law 295 = .ok (.invokevirtual 27, 3) := by decide +kernel
theorem dL_law_298 : decode cL_law 298 = .ok (.aload_n 2, 1) := by decide +kernel
theorem dL_law_299 : decode cL_law 299 = .ok (.aload_n 0, 1) := by decide +kernel
theorem dL_law_300 : decode cL_law 300 = .ok (.iload_n 3, 1) := by decide +kernel
theorem dL_law_301 : decode cL_law 301 = .ok (.iconst 1, 1) := by decide +kernel
theorem dL_law_302 : decode cL_law 302 = .ok (.iadd, 1) := by decide +kernel
theorem dL_law_303 : decode cL_law 303 = .ok (.iaload, 1) := by decide +kernel
theorem dL_law_304 : decode cL_law 304 = .ok (.invokevirtual 30, 3) := by decide +kernel
theorem dL_law_307 : decode cL_law 307 = .ok (.if_icmp .eq 944, 3) := by decide +kernel
theorem dL_law_310 : decode cL_law 310 = .ok (.iconst 0, 1) := by decide +kernel
theorem dL_law_311 : decode cL_law 311 = .ok (.ireturn, 1) := by decide +kernel
theorem dL_law_312 : decode cL_law 312 = .ok (.aload_n 1, 1) := by decide +kernel
theorem dL_law_313 : decode cL_law 313 = .ok (.invokevirtual 31, 3) := by decide +kernel
theorem dL_law_316 : decode cL_law 316 = .ok (.aload_n 2, 1) := by decide +kernel
theorem dL_law_317 : decode cL_law 317 = .ok (.invokevirtual 35, 3) := by decide +kernel
theorem dL_law_320 : decode cL_law 320 = .ok (.if_icmp .eq 931, 3) := by decide +kernel
theorem dL_law_323 : decode cL_law 323 = .ok (.iconst 0, 1) := by decide +kernel
theorem dL_law_324 : decode cL_law 324 = .ok (.ireturn, 1) := by decide +kernel
theorem dL_law_325 : decode cL_law 325 = .ok (.aload_n 1, 1) := by decide +kernel
theorem dL_law_326 : decode cL_law 326 = .ok (.aload_n 0, 1) := by decide +kernel
theorem dL_law_327 : decode cL_law 327 = .ok (.iload_n 3, 1) := by decide +kernel
theorem dL_law_328 : decode cL_law 328 = .ok (.iconst 1, 1) := by decide +kernel
theorem dL_law_329 : decode cL_law 329 = .ok (.iadd, 1) := by decide +kernel
theorem dL_law_330 : decode cL_law 330 = .ok (.iaload, 1) := by decide +kernel
theorem dL_law_331 : decode cL_law 331 = .ok (.invokevirtual 36, 3) := by decide +kernel
theorem dL_law_334 : decode cL_law 334 = .ok (.aload_n 2, 1) := by decide +kernel
theorem dL_law_335 : decode cL_law 335 = .ok (.aload_n 0, 1) := by decide +kernel
theorem dL_law_336 : decode cL_law 336 = .ok (.iload_n 3, 1) := by decide +kernel
theorem dL_law_337 : decode cL_law 337 = .ok (.iconst 1, 1) := by decide +kernel
theorem dL_law_338 : decode cL_law 338 = .ok (.iadd, 1) := by decide +kernel
theorem dL_law_339 : decode cL_law 339 = .ok (.iaload, 1) := by decide +kernel
theorem dL_law_340 : decode cL_law 340 = .ok (.invokevirtual 39, 3) := by decide +kernel
theorem dL_law_343 : decode cL_law 343 = .ok (.if_icmp .eq 908, 3) := by decide +kernel
theorem dL_law_346 : decode cL_law 346 = .ok (.iconst 0, 1) := by decide +kernel
theorem dL_law_347 : decode cL_law 347 = .ok (.ireturn, 1) := by decide +kernel
theorem dL_law_348 : decode cL_law 348 = .ok (.aload_n 1, 1) := by decide +kernel
theorem dL_law_349 : decode cL_law 349 = .ok (.aload_n 0, 1) := by decide +kernel
theorem dL_law_350 : decode cL_law 350 = .ok (.iload_n 3, 1) := by decide +kernel
theorem dL_law_351 : decode cL_law 351 = .ok (.iconst 1, 1) := by decide +kernel
theorem dL_law_352 : decode cL_law 352 = .ok (.iadd, 1) := by decide +kernel
theorem dL_law_353 : decode cL_law 353 = .ok (.iaload, 1) := by decide +kernel
theorem dL_law_354 : decode cL_law 354 = .ok (.aload_n 0, 1) := by decide +kernel
theorem dL_law_355 : decode cL_law 355 = .ok (.iload_n 3, 1) := by decide +kernel
theorem dL_law_356 : decode cL_law 356 = .ok (.iconst 2, 1) := by decide +kernel
theorem dL_law_357 : decode cL_law 357 = .ok (.iadd, 1) := by decide +kernel
theorem dL_law_358 : decode cL_law 358 = .ok (.iaload, 1) := by decide +kernel
theorem dL_law_359 : decode cL_law 359 = .ok (.aload_n 0, 1) := by decide +kernel
theorem dL_law_360 : decode cL_law 360 = .ok (.iload_n 3, 1) := by decide +kernel
theorem dL_law_361 : decode cL_law 361 = .ok (.iconst 3, 1) := by decide +kernel
theorem dL_law_362 : decode cL_law 362 = .ok (.iadd, 1) := by decide +kernel
theorem dL_law_363 : decode cL_law 363 = .ok (.iaload, 1) := by decide +kernel
theorem dL_law_364 : decode cL_law 364 = .ok (.invokevirtual 40, 3) := by decide +kernel
theorem dL_law_367 : decode cL_law 367 = .ok (.aload_n 2, 1) := by decide +kernel
theorem dL_law_368 : decode cL_law 368 = .ok (.aload_n 0, 1) := by decide +kernel
theorem dL_law_369 : decode cL_law 369 = .ok (.iload_n 3, 1) := by decide +kernel
theorem dL_law_370 : decode cL_law 370 = .ok (.iconst 1, 1) := by decide +kernel
theorem dL_law_371 : decode cL_law 371 = .ok (.iadd, 1) := by decide +kernel
theorem dL_law_372 : decode cL_law 372 = .ok (.iaload, 1) := by decide +kernel
theorem dL_law_373 : decode cL_law 373 = .ok (.aload_n 0, 1) := by decide +kernel
theorem dL_law_374 : decode cL_law 374 = .ok (.iload_n 3, 1) := by decide +kernel
theorem dL_law_375 : decode cL_law 375 = .ok (.iconst 2, 1) := by decide +kernel
theorem dL_law_376 : decode cL_law 376 = .ok (.iadd, 1) := by decide +kernel
theorem dL_law_377 : decode cL_law 377 = .ok (.iaload, 1) := by decide +kernel
theorem dL_law_378 : decode cL_law 378 = .ok (.aload_n 0, 1) := by decide +kernel
theorem dL_law_379 : decode cL_law 379 = .ok (.iload_n 3, 1) := by decide +kernel
theorem dL_law_380 : decode cL_law 380 = .ok (.iconst 3, 1) := by decide +kernel
theorem dL_law_381 : decode cL_law 381 = .ok (.iadd, 1) := by decide +kernel
theorem dL_law_382 : decode cL_law 382 = .ok (.iaload, 1) := by decide +kernel
theorem dL_law_383 : decode cL_law 383 = .ok (.invokevirtual 44, 3) := by decide +kernel
theorem dL_law_386 : decode cL_law 386 = .ok (.if_icmp .eq 865, 3) := by decide +kernel
theorem dL_law_389 : decode cL_law 389 = .ok (.iconst 0, 1) := by decide +kernel
theorem dL_law_390 : decode cL_law 390 = .ok (.ireturn, 1) := by decide +kernel
theorem dL_law_391 : decode cL_law 391 = .ok (.aload_n 1, 1) := by decide +kernel
theorem dL_law_392 : decode cL_law 392 = .ok (.aload_n 0, 1) := by decide +kernel
theorem dL_law_393 : decode cL_law 393 = .ok (.iload_n 3, 1) := by decide +kernel
theorem dL_law_394 : decode cL_law 394 = .ok (.iconst 1, 1) := by decide +kernel
theorem dL_law_395 : decode cL_law 395 = .ok (.iadd, 1) := by decide +kernel
theorem dL_law_396 : decode cL_law 396 = .ok (.iaload, 1) := by decide +kernel
theorem dL_law_397 : decode cL_law 397 = .ok (.aload_n 0, 1) := by decide +kernel
theorem dL_law_398 : decode cL_law 398 = .ok (.iload_n 3, 1) := by decide +kernel
theorem dL_law_399 : decode cL_law 399 = .ok (.iconst 2, 1) := by decide +kernel
theorem dL_law_400 : decode cL_law 400 = .ok (.iadd, 1) := by decide +kernel
theorem dL_law_401 : decode cL_law 401 = .ok (.iaload, 1) := by decide +kernel
theorem dL_law_402 : decode cL_law 402 = .ok (.aload_n 0, 1) := by decide +kernel
theorem dL_law_403 : decode cL_law 403 = .ok (.iload_n 3, 1) := by decide +kernel
theorem dL_law_404 : decode cL_law 404 = .ok (.iconst 3, 1) := by decide +kernel
theorem dL_law_405 : decode cL_law 405 = .ok (.iadd, 1) := by decide +kernel
theorem dL_law_406 : decode cL_law 406 = .ok (.iaload, 1) := by decide +kernel
theorem dL_law_407 : decode cL_law 407 = .ok (.invokevirtual 45, 3) := by decide +kernel
theorem dL_law_410 : decode cL_law 410 = .ok (.aload_n 2, 1) := by decide +kernel
theorem dL_law_411 : decode cL_law 411 = .ok (.aload_n 0, 1) := by decide +kernel
theorem dL_law_412 : decode cL_law 412 = .ok (.iload_n 3, 1) := by decide +kernel
theorem dL_law_413 : decode cL_law 413 = .ok (.iconst 1, 1) := by decide +kernel
theorem dL_law_414 : decode cL_law 414 = .ok (.iadd, 1) := by decide +kernel
theorem dL_law_415 : decode cL_law 415 = .ok (.iaload, 1) := by decide +kernel
theorem dL_law_416 : decode cL_law 416 = .ok (.aload_n 0, 1) := by decide +kernel
theorem dL_law_417 : decode cL_law 417 = .ok (.iload_n 3, 1) := by decide +kernel
theorem dL_law_418 : decode cL_law 418 = .ok (.iconst 2, 1) := by decide +kernel
theorem dL_law_419 : decode cL_law 419 = .ok (.iadd, 1) := by decide +kernel
theorem dL_law_420 : decode cL_law 420 = .ok (.iaload, 1) := by decide +kernel
theorem dL_law_421 : decode cL_law 421 = .ok (.aload_n 0, 1) := by decide +kernel
theorem dL_law_422 : decode cL_law 422 = .ok (.iload_n 3, 1) := by decide +kernel
theorem dL_law_423 : decode cL_law 423 = .ok (.iconst 3, 1) := by decide +kernel
theorem dL_law_424 : decode cL_law 424 = .ok (.iadd, 1) := by decide +kernel
theorem dL_law_425 : decode cL_law 425 = .ok (.iaload, 1) := by decide +kernel
theorem dL_law_426 : decode cL_law 426 = .ok (.invokevirtual 48, 3) := by decide +kernel
theorem dL_law_429 : decode cL_law 429 = .ok (.if_icmp .eq 822, 3) := by decide +kernel
theorem dL_law_432 : decode cL_law 432 = .ok (.iconst 0, 1) := by decide +kernel
theorem dL_law_433 : decode cL_law 433 = .ok (.ireturn, 1) := by decide +kernel
theorem dL_law_434 : decode cL_law 434 = .ok (.aload_n 1, 1) := by decide +kernel
theorem dL_law_435 : decode cL_law 435 = .ok (.aload_n 0, 1) := by decide +kernel
theorem dL_law_436 : decode cL_law 436 = .ok (.iload_n 3, 1) := by decide +kernel
theorem dL_law_437 : decode cL_law 437 = .ok (.iconst 1, 1) := by decide +kernel
theorem dL_law_438 : decode cL_law 438 = .ok (.iadd, 1) := by decide +kernel
theorem dL_law_439 : decode cL_law 439 = .ok (.iaload, 1) := by decide +kernel
theorem dL_law_440 : decode cL_law 440 = .ok (.aload_n 0, 1) := by decide +kernel
theorem dL_law_441 : decode cL_law 441 = .ok (.iload_n 3, 1) := by decide +kernel
theorem dL_law_442 : decode cL_law 442 = .ok (.iconst 2, 1) := by decide +kernel
theorem dL_law_443 : decode cL_law 443 = .ok (.iadd, 1) := by decide +kernel
theorem dL_law_444 : decode cL_law 444 = .ok (.iaload, 1) := by decide +kernel
theorem dL_law_445 : decode cL_law 445 = .ok (.aload_n 0, 1) := by decide +kernel
theorem dL_law_446 : decode cL_law 446 = .ok (.iload_n 3, 1) := by decide +kernel
theorem dL_law_447 : decode cL_law 447 = .ok (.iconst 3, 1) := by decide +kernel
theorem dL_law_448 : decode cL_law 448 = .ok (.iadd, 1) := by decide +kernel
theorem dL_law_449 : decode cL_law 449 = .ok (.iaload, 1) := by decide +kernel
theorem dL_law_450 : decode cL_law 450 = .ok (.aload_n 0, 1) := by decide +kernel
theorem dL_law_451 : decode cL_law 451 = .ok (.iload_n 3, 1) := by decide +kernel
theorem dL_law_452 : decode cL_law 452 = .ok (.iconst 4, 1) := by decide +kernel
theorem dL_law_453 : decode cL_law 453 = .ok (.iadd, 1) := by decide +kernel
theorem dL_law_454 : decode cL_law 454 = .ok (.iaload, 1) := by decide +kernel
theorem dL_law_455 : decode cL_law 455 = .ok (.invokevirtual 49, 3) := by decide +kernel
theorem dL_law_458 : decode cL_law 458 = .ok (.aload_n 2, 1) := by decide +kernel
theorem dL_law_459 : decode cL_law 459 = .ok (.aload_n 0, 1) := by decide +kernel
theorem dL_law_460 : decode cL_law 460 = .ok (.iload_n 3, 1) := by decide +kernel
theorem dL_law_461 : decode cL_law 461 = .ok (.iconst 1, 1) := by decide +kernel
theorem dL_law_462 : decode cL_law 462 = .ok (.iadd, 1) := by decide +kernel
theorem dL_law_463 : decode cL_law 463 = .ok (.iaload, 1) := by decide +kernel
theorem dL_law_464 : decode cL_law 464 = .ok (.aload_n 0, 1) := by decide +kernel
theorem dL_law_465 : decode cL_law 465 = .ok (.iload_n 3, 1) := by decide +kernel
theorem dL_law_466 : decode cL_law 466 = .ok (.iconst 2, 1) := by decide +kernel
theorem dL_law_467 : decode cL_law 467 = .ok (.iadd, 1) := by decide +kernel
theorem dL_law_468 : decode cL_law 468 = .ok (.iaload, 1) := by decide +kernel
theorem dL_law_469 : decode cL_law 469 = .ok (.aload_n 0, 1) := by decide +kernel
theorem dL_law_470 : decode cL_law 470 = .ok (.iload_n 3, 1) := by decide +kernel
theorem dL_law_471 : decode cL_law 471 = .ok (.iconst 3, 1) := by decide +kernel
theorem dL_law_472 : decode cL_law 472 = .ok (.iadd, 1) := by decide +kernel
theorem dL_law_473 : decode cL_law 473 = .ok (.iaload, 1) := by decide +kernel
theorem dL_law_474 : decode cL_law 474 = .ok (.aload_n 0, 1) := by decide +kernel
theorem dL_law_475 : decode cL_law 475 = .ok (.iload_n 3, 1) := by decide +kernel
theorem dL_law_476 : decode cL_law 476 = .ok (.iconst 4, 1) := by decide +kernel
theorem dL_law_477 : decode cL_law 477 = .ok (.iadd, 1) := by decide +kernel
theorem dL_law_478 : decode cL_law 478 = .ok (.iaload, 1) := by decide +kernel
theorem dL_law_479 : decode cL_law 479 = .ok (.invokevirtual 53, 3) := by decide +kernel
theorem dL_law_482 : decode cL_law 482 = .ok (.if_icmp .eq 769, 3) := by decide +kernel
theorem dL_law_485 : decode cL_law 485 = .ok (.iconst 0, 1) := by decide +kernel
theorem dL_law_486 : decode cL_law 486 = .ok (.ireturn, 1) := by decide +kernel
theorem dL_law_487 : decode cL_law 487 = .ok (.aload_n 1, 1) := by decide +kernel
theorem dL_law_488 : decode cL_law 488 = .ok (.aload_n 0, 1) := by decide +kernel
theorem dL_law_489 : decode cL_law 489 = .ok (.iload_n 3, 1) := by decide +kernel
theorem dL_law_490 : decode cL_law 490 = .ok (.iconst 1, 1) := by decide +kernel
theorem dL_law_491 : decode cL_law 491 = .ok (.iadd, 1) := by decide +kernel
theorem dL_law_492 : decode cL_law 492 = .ok (.iaload, 1) := by decide +kernel
theorem dL_law_493 : decode cL_law 493 = .ok (.aload_n 0, 1) := by decide +kernel
theorem dL_law_494 : decode cL_law 494 = .ok (.iload_n 3, 1) := by decide +kernel
theorem dL_law_495 : decode cL_law 495 = .ok (.iconst 2, 1) := by decide +kernel
theorem dL_law_496 : decode cL_law 496 = .ok (.iadd, 1) := by decide +kernel
theorem dL_law_497 : decode cL_law 497 = .ok (.iaload, 1) := by decide +kernel
theorem dL_law_498 : decode cL_law 498 = .ok (.aload_n 0, 1) := by decide +kernel
theorem dL_law_499 : decode cL_law 499 = .ok (.iload_n 3, 1) := by decide +kernel
theorem dL_law_500 : decode cL_law 500 = .ok (.iconst 3, 1) := by decide +kernel
theorem dL_law_501 : decode cL_law 501 = .ok (.iadd, 1) := by decide +kernel
theorem dL_law_502 : decode cL_law 502 = .ok (.iaload, 1) := by decide +kernel
theorem dL_law_503 : decode cL_law 503 = .ok (.invokevirtual 54, 3) := by decide +kernel
theorem dL_law_506 : decode cL_law 506 = .ok (.aload_n 2, 1) := by decide +kernel
theorem dL_law_507 : decode cL_law 507 = .ok (.aload_n 0, 1) := by decide +kernel
theorem dL_law_508 : decode cL_law 508 = .ok (.iload_n 3, 1) := by decide +kernel
theorem dL_law_509 : decode cL_law 509 = .ok (.iconst 1, 1) := by decide +kernel
theorem dL_law_510 : decode cL_law 510 = .ok (.iadd, 1) := by decide +kernel
theorem dL_law_511 : decode cL_law 511 = .ok (.iaload, 1) := by decide +kernel
theorem dL_law_512 : decode cL_law 512 = .ok (.aload_n 0, 1) := by decide +kernel
theorem dL_law_513 : decode cL_law 513 = .ok (.iload_n 3, 1) := by decide +kernel
theorem dL_law_514 : decode cL_law 514 = .ok (.iconst 2, 1) := by decide +kernel
theorem dL_law_515 : decode cL_law 515 = .ok (.iadd, 1) := by decide +kernel
theorem dL_law_516 : decode cL_law 516 = .ok (.iaload, 1) := by decide +kernel
theorem dL_law_517 : decode cL_law 517 = .ok (.aload_n 0, 1) := by decide +kernel
theorem dL_law_518 : decode cL_law 518 = .ok (.iload_n 3, 1) := by decide +kernel
theorem dL_law_519 : decode cL_law 519 = .ok (.iconst 3, 1) := by decide +kernel
theorem dL_law_520 : decode cL_law 520 = .ok (.iadd, 1) := by decide +kernel
theorem dL_law_521 : decode cL_law 521 = .ok (.iaload, 1) := by decide +kernel
theorem dL_law_522 : decode cL_law 522 = .ok (.invokevirtual 57, 3) := by decide +kernel
theorem dL_law_525 : decode cL_law 525 = .ok (.if_icmp .eq 726, 3) := by decide +kernel
theorem dL_law_528 : decode cL_law 528 = .ok (.iconst 0, 1) := by decide +kernel
theorem dL_law_529 : decode cL_law 529 = .ok (.ireturn, 1) := by decide +kernel
theorem dL_law_530 : decode cL_law 530 = .ok (.aload_n 1, 1) := by decide +kernel
theorem dL_law_531 : decode cL_law 531 = .ok (.aload_n 0, 1) := by decide +kernel
theorem dL_law_532 : decode cL_law 532 = .ok (.iload_n 3, 1) := by decide +kernel
theorem dL_law_533 : decode cL_law 533 = .ok (.iconst 1, 1) := by decide +kernel
theorem dL_law_534 : decode cL_law 534 = .ok (.iadd, 1) := by decide +kernel
theorem dL_law_535 : decode cL_law 535 = .ok (.iaload, 1) := by decide +kernel
theorem dL_law_536 : decode cL_law 536 = .ok (.aload_n 0, 1) := by decide +kernel
theorem dL_law_537 : decode cL_law 537 = .ok (.iload_n 3, 1) := by decide +kernel
theorem dL_law_538 : decode cL_law 538 = .ok (.iconst 2, 1) := by decide +kernel
theorem dL_law_539 : decode cL_law 539 = .ok (.iadd, 1) := by decide +kernel
theorem dL_law_540 : decode cL_law 540 = .ok (.iaload, 1) := by decide +kernel
theorem dL_law_541 : decode cL_law 541 = .ok (.invokevirtual 58, 3) := by decide +kernel
theorem dL_law_544 : decode cL_law 544 = .ok (.aload_n 2, 1) := by decide +kernel
theorem dL_law_545 : decode cL_law 545 = .ok (.aload_n 0, 1) := by decide +kernel
theorem dL_law_546 : decode cL_law 546 = .ok (.iload_n 3, 1) := by decide +kernel
theorem dL_law_547 : decode cL_law 547 = .ok (.iconst 1, 1) := by decide +kernel
theorem dL_law_548 : decode cL_law 548 = .ok (.iadd, 1) := by decide +kernel
theorem dL_law_549 : decode cL_law 549 = .ok (.iaload, 1) := by decide +kernel
theorem dL_law_550 : decode cL_law 550 = .ok (.aload_n 0, 1) := by decide +kernel
theorem dL_law_551 : decode cL_law 551 = .ok (.iload_n 3, 1) := by decide +kernel
theorem dL_law_552 : decode cL_law 552 = .ok (.iconst 2, 1) := by decide +kernel
theorem dL_law_553 : decode cL_law 553 = .ok (.iadd, 1) := by decide +kernel
theorem dL_law_554 : decode cL_law 554 = .ok (.iaload, 1) := by decide +kernel
theorem dL_law_555 : decode cL_law 555 = .ok (.invokevirtual 62, 3) := by decide +kernel
theorem dL_law_558 : decode cL_law 558 = .ok (.if_icmp .eq 693, 3) := by decide +kernel
theorem dL_law_561 : decode cL_law 561 = .ok (.iconst 0, 1) := by decide +kernel
theorem dL_law_562 : decode cL_law 562 = .ok (.ireturn, 1) := by decide +kernel
theorem dL_law_563 : decode cL_law 563 = .ok (.aload_n 1, 1) := by decide +kernel
theorem dL_law_564 : decode cL_law 564 = .ok (.aload_n 0, 1) := by decide +kernel
theorem dL_law_565 : decode cL_law 565 = .ok (.iload_n 3, 1) := by decide +kernel
theorem dL_law_566 : decode cL_law 566 = .ok (.iconst 1, 1) := by decide +kernel
theorem dL_law_567 : decode cL_law 567 = .ok (.iadd, 1) := by decide +kernel
theorem dL_law_568 : decode cL_law 568 = .ok (.iaload, 1) := by decide +kernel
theorem dL_law_569 : decode cL_law 569 = .ok (.aload_n 0, 1) := by decide +kernel
theorem dL_law_570 : decode cL_law 570 = .ok (.iload_n 3, 1) := by decide +kernel
theorem dL_law_571 : decode cL_law 571 = .ok (.iconst 2, 1) := by decide +kernel
theorem dL_law_572 : decode cL_law 572 = .ok (.iadd, 1) := by decide +kernel
theorem dL_law_573 : decode cL_law 573 = .ok (.iaload, 1) := by decide +kernel
theorem dL_law_574 : decode cL_law 574 = .ok (.invokevirtual 63, 3) := by decide +kernel
theorem dL_law_577 : decode cL_law 577 = .ok (.aload_n 2, 1) := by decide +kernel
theorem dL_law_578 : decode cL_law 578 = .ok (.aload_n 0, 1) := by decide +kernel
theorem dL_law_579 : decode cL_law 579 = .ok (.iload_n 3, 1) := by decide +kernel
theorem dL_law_580 : decode cL_law 580 = .ok (.iconst 1, 1) := by decide +kernel
theorem dL_law_581 : decode cL_law 581 = .ok (.iadd, 1) := by decide +kernel
theorem dL_law_582 : decode cL_law 582 = .ok (.iaload, 1) := by decide +kernel
theorem dL_law_583 : decode cL_law 583 = .ok (.aload_n 0, 1) := by decide +kernel
theorem dL_law_584 : decode cL_law 584 = .ok (.iload_n 3, 1) := by decide +kernel
theorem dL_law_585 : decode cL_law 585 = .ok (.iconst 2, 1) := by decide +kernel
theorem dL_law_586 : decode cL_law 586 = .ok (.iadd, 1) := by decide +kernel
theorem dL_law_587 : decode cL_law 587 = .ok (.iaload, 1) := by decide +kernel
theorem dL_law_588 : decode cL_law 588 = .ok (.invokevirtual 66, 3) := by decide +kernel
theorem dL_law_591 : decode cL_law 591 = .ok (.if_icmp .eq 660, 3) := by decide +kernel
theorem dL_law_594 : decode cL_law 594 = .ok (.iconst 0, 1) := by decide +kernel
theorem dL_law_595 : decode cL_law 595 = .ok (.ireturn, 1) := by decide +kernel
theorem dL_law_596 : decode cL_law 596 = .ok (.aload_n 1, 1) := by decide +kernel
theorem dL_law_597 : decode cL_law 597 = .ok (.aload_n 0, 1) := by decide +kernel
theorem dL_law_598 : decode cL_law 598 = .ok (.iload_n 3, 1) := by decide +kernel
theorem dL_law_599 : decode cL_law 599 = .ok (.iconst 1, 1) := by decide +kernel
theorem dL_law_600 : decode cL_law 600 = .ok (.iadd, 1) := by decide +kernel
theorem dL_law_601 : decode cL_law 601 = .ok (.iaload, 1) := by decide +kernel
theorem dL_law_602 : decode cL_law 602 = .ok (.aload_n 0, 1) := by decide +kernel
theorem dL_law_603 : decode cL_law 603 = .ok (.iload_n 3, 1) := by decide +kernel
theorem dL_law_604 : decode cL_law 604 = .ok (.iconst 2, 1) := by decide +kernel
theorem dL_law_605 : decode cL_law 605 = .ok (.iadd, 1) := by decide +kernel
theorem dL_law_606 : decode cL_law 606 = .ok (.iaload, 1) := by decide +kernel
theorem dL_law_607 : decode cL_law 607 = .ok (.aload_n 0, 1) := by decide +kernel
theorem dL_law_608 : decode cL_law 608 = .ok (.iload_n 3, 1) := by decide +kernel
theorem dL_law_609 : decode cL_law 609 = .ok (.iconst 3, 1) := by decide +kernel
theorem dL_law_610 : decode cL_law 610 = .ok (.iadd, 1) := by decide +kernel
theorem dL_law_611 : decode cL_law 611 = .ok (.iaload, 1) := by decide +kernel
theorem dL_law_612 : decode cL_law 612 = .ok (.aload_n 0, 1) := by decide +kernel
theorem dL_law_613 : decode cL_law 613 = .ok (.iload_n 3, 1) := by decide +kernel
theorem dL_law_614 : decode cL_law 614 = .ok (.iconst 4, 1) := by decide +kernel
theorem dL_law_615 : decode cL_law 615 = .ok (.iadd, 1) := by decide +kernel
theorem dL_law_616 : decode cL_law 616 = .ok (.iaload, 1) := by decide +kernel
theorem dL_law_617 : decode cL_law 617 = .ok (.invokevirtual 67, 3) := by decide +kernel
theorem dL_law_620 : decode cL_law 620 = .ok (.aload_n 2, 1) := by decide +kernel
theorem dL_law_621 : decode cL_law 621 = .ok (.aload_n 0, 1) := by decide +kernel
theorem dL_law_622 : decode cL_law 622 = .ok (.iload_n 3, 1) := by decide +kernel
theorem dL_law_623 : decode cL_law 623 = .ok (.iconst 1, 1) := by decide +kernel
theorem dL_law_624 : decode cL_law 624 = .ok (.iadd, 1) := by decide +kernel
theorem dL_law_625 : decode cL_law 625 = .ok (.iaload, 1) := by decide +kernel
theorem dL_law_626 : decode cL_law 626 = .ok (.aload_n 0, 1) := by decide +kernel
theorem dL_law_627 : decode cL_law 627 = .ok (.iload_n 3, 1) := by decide +kernel
theorem dL_law_628 : decode cL_law 628 = .ok (.iconst 2, 1) := by decide +kernel
theorem dL_law_629 : decode cL_law 629 = .ok (.iadd, 1) := by decide +kernel
theorem dL_law_630 : decode cL_law 630 = .ok (.iaload, 1) := by decide +kernel
theorem dL_law_631 : decode cL_law 631 = .ok (.aload_n 0, 1) := by decide +kernel
theorem dL_law_632 : decode cL_law 632 = .ok (.iload_n 3, 1) := by decide +kernel
theorem dL_law_633 : decode cL_law 633 = .ok (.iconst 3, 1) := by decide +kernel
theorem dL_law_634 : decode cL_law 634 = .ok (.iadd, 1) := by decide +kernel
theorem dL_law_635 : decode cL_law 635 = .ok (.iaload, 1) := by decide +kernel
theorem dL_law_636 : decode cL_law 636 = .ok (.aload_n 0, 1) := by decide +kernel
theorem dL_law_637 : decode cL_law 637 = .ok (.iload_n 3, 1) := by decide +kernel
theorem dL_law_638 : decode cL_law 638 = .ok (.iconst 4, 1) := by decide +kernel
theorem dL_law_639 : decode cL_law 639 = .ok (.iadd, 1) := by decide +kernel
theorem dL_law_640 : decode cL_law 640 = .ok (.iaload, 1) := by decide +kernel
theorem dL_law_641 : decode cL_law 641 = .ok (.invokevirtual 70, 3) := by decide +kernel
theorem dL_law_644 : decode cL_law 644 = .ok (.if_icmp .eq 607, 3) := by decide +kernel
theorem dL_law_647 : decode cL_law 647 = .ok (.iconst 0, 1) := by decide +kernel
theorem dL_law_648 : decode cL_law 648 = .ok (.ireturn, 1) := by decide +kernel
theorem dL_law_649 : decode cL_law 649 = .ok (.aload_n 1, 1) := by decide +kernel
theorem dL_law_650 : decode cL_law 650 = .ok (.aload_n 0, 1) := by decide +kernel
theorem dL_law_651 : decode cL_law 651 = .ok (.iload_n 3, 1) := by decide +kernel
theorem dL_law_652 : decode cL_law 652 = .ok (.iconst 1, 1) := by decide +kernel
theorem dL_law_653 : decode cL_law 653 = .ok (.iadd, 1) := by decide +kernel
theorem dL_law_654 : decode cL_law 654 = .ok (.iaload, 1) := by decide +kernel
theorem dL_law_655 : decode cL_law 655 = .ok (.aload_n 0, 1) := by decide +kernel
theorem dL_law_656 : decode cL_law 656 = .ok (.iload_n 3, 1) := by decide +kernel
theorem dL_law_657 : decode cL_law 657 = .ok (.iconst 2, 1) := by decide +kernel
theorem dL_law_658 : decode cL_law 658 = .ok (.iadd, 1) := by decide +kernel
theorem dL_law_659 : decode cL_law 659 = .ok (.iaload, 1) := by decide +kernel
theorem dL_law_660 : decode cL_law 660 = .ok (.invokevirtual 71, 3) := by decide +kernel
theorem dL_law_663 : decode cL_law 663 = .ok (.aload_n 2, 1) := by decide +kernel
theorem dL_law_664 : decode cL_law 664 = .ok (.aload_n 0, 1) := by decide +kernel
theorem dL_law_665 : decode cL_law 665 = .ok (.iload_n 3, 1) := by decide +kernel
theorem dL_law_666 : decode cL_law 666 = .ok (.iconst 1, 1) := by decide +kernel
theorem dL_law_667 : decode cL_law 667 = .ok (.iadd, 1) := by decide +kernel
theorem dL_law_668 : decode cL_law 668 = .ok (.iaload, 1) := by decide +kernel
theorem dL_law_669 : decode cL_law 669 = .ok (.aload_n 0, 1) := by decide +kernel
theorem dL_law_670 : decode cL_law 670 = .ok (.iload_n 3, 1) := by decide +kernel
theorem dL_law_671 : decode cL_law 671 = .ok (.iconst 2, 1) := by decide +kernel
theorem dL_law_672 : decode cL_law 672 = .ok (.iadd, 1) := by decide +kernel
theorem dL_law_673 : decode cL_law 673 = .ok (.iaload, 1) := by decide +kernel
theorem dL_law_674 : decode cL_law 674 = .ok (.invokevirtual 74, 3) := by decide +kernel
theorem dL_law_677 : decode cL_law 677 = .ok (.if_icmp .eq 574, 3) := by decide +kernel
theorem dL_law_680 : decode cL_law 680 = .ok (.iconst 0, 1) := by decide +kernel
theorem dL_law_681 : decode cL_law 681 = .ok (.ireturn, 1) := by decide +kernel
theorem dL_law_682 : decode cL_law 682 = .ok (.aload_n 1, 1) := by decide +kernel
theorem dL_law_683 : decode cL_law 683 = .ok (.invokevirtual 75, 3) := by decide +kernel
theorem dL_law_686 : decode cL_law 686 = .ok (.aload_n 2, 1) := by decide +kernel
theorem dL_law_687 : decode cL_law 687 = .ok (.invokevirtual 78, 3) := by decide +kernel
theorem dL_law_690 : decode cL_law 690 = .ok (.if_icmp .eq 561, 3) := by decide +kernel
theorem dL_law_693 : decode cL_law 693 = .ok (.iconst 0, 1) := by decide +kernel
theorem dL_law_694 : decode cL_law 694 = .ok (.ireturn, 1) := by decide +kernel
theorem dL_law_695 : decode cL_law 695 = .ok (.aload_n 1, 1) := by decide +kernel
theorem dL_law_696 : decode cL_law 696 = .ok (.aload_n 0, 1) := by decide +kernel
theorem dL_law_697 : decode cL_law 697 = .ok (.iload_n 3, 1) := by decide +kernel
theorem dL_law_698 : decode cL_law 698 = .ok (.iconst 1, 1) := by decide +kernel
theorem dL_law_699 : decode cL_law 699 = .ok (.iadd, 1) := by decide +kernel
theorem dL_law_700 : decode cL_law 700 = .ok (.iaload, 1) := by decide +kernel
theorem dL_law_701 : decode cL_law 701 = .ok (.invokevirtual 79, 3) := by decide +kernel
theorem dL_law_704 : decode cL_law 704 = .ok (.aload_n 2, 1) := by decide +kernel
theorem dL_law_705 : decode cL_law 705 = .ok (.aload_n 0, 1) := by decide +kernel
theorem dL_law_706 : decode cL_law 706 = .ok (.iload_n 3, 1) := by decide +kernel
theorem dL_law_707 : decode cL_law 707 = .ok (.iconst 1, 1) := by decide +kernel
theorem dL_law_708 : decode cL_law 708 = .ok (.iadd, 1) := by decide +kernel
theorem dL_law_709 : decode cL_law 709 = .ok (.iaload, 1) := by decide +kernel
theorem dL_law_710 : decode cL_law 710 = .ok (.invokevirtual 82, 3) := by decide +kernel
theorem dL_law_713 : decode cL_law 713 = .ok (.if_icmp .eq 538, 3) := by decide +kernel
theorem dL_law_716 : decode cL_law 716 = .ok (.iconst 0, 1) := by decide +kernel
theorem dL_law_717 : decode cL_law 717 = .ok (.ireturn, 1) := by decide +kernel
theorem dL_law_718 : decode cL_law 718 = .ok (.aload_n 1, 1) := by decide +kernel
theorem dL_law_719 : decode cL_law 719 = .ok (.aload_n 0, 1) := by decide +kernel
theorem dL_law_720 : decode cL_law 720 = .ok (.iload_n 3, 1) := by decide +kernel
theorem dL_law_721 : decode cL_law 721 = .ok (.iconst 1, 1) := by decide +kernel
theorem dL_law_722 : decode cL_law 722 = .ok (.iadd, 1) := by decide +kernel
theorem dL_law_723 : decode cL_law 723 = .ok (.iaload, 1) := by decide +kernel
theorem dL_law_724 : decode cL_law 724 = .ok (.invokevirtual 83, 3) := by decide +kernel
theorem dL_law_727 : decode cL_law 727 = .ok (.aload_n 2, 1) := by decide +kernel
theorem dL_law_728 : decode cL_law 728 = .ok (.aload_n 0, 1) := by decide +kernel
theorem dL_law_729 : decode cL_law 729 = .ok (.iload_n 3, 1) := by decide +kernel
theorem dL_law_730 : decode cL_law 730 = .ok (.iconst 1, 1) := by decide +kernel
theorem dL_law_731 : decode cL_law 731 = .ok (.iadd, 1) := by decide +kernel
theorem dL_law_732 : decode cL_law 732 = .ok (.iaload, 1) := by decide +kernel
theorem dL_law_733 : decode cL_law 733 = .ok (.invokevirtual 86, 3) := by decide +kernel
theorem dL_law_736 : decode cL_law 736 = .ok (.if_icmp .eq 515, 3) := by decide +kernel
theorem dL_law_739 : decode cL_law 739 = .ok (.iconst 0, 1) := by decide +kernel
theorem dL_law_740 : decode cL_law 740 = .ok (.ireturn, 1) := by decide +kernel
theorem dL_law_741 : decode cL_law 741 = .ok (.aload_n 1, 1) := by decide +kernel
theorem dL_law_742 : decode cL_law 742 = .ok (.aload_n 0, 1) := by decide +kernel
theorem dL_law_743 : decode cL_law 743 = .ok (.iload_n 3, 1) := by decide +kernel
theorem dL_law_744 : decode cL_law 744 = .ok (.iconst 1, 1) := by decide +kernel
theorem dL_law_745 : decode cL_law 745 = .ok (.iadd, 1) := by decide +kernel
theorem dL_law_746 : decode cL_law 746 = .ok (.iaload, 1) := by decide +kernel
theorem dL_law_747 : decode cL_law 747 = .ok (.aload_n 0, 1) := by decide +kernel
theorem dL_law_748 : decode cL_law 748 = .ok (.iload_n 3, 1) := by decide +kernel
theorem dL_law_749 : decode cL_law 749 = .ok (.iconst 2, 1) := by decide +kernel
theorem dL_law_750 : decode cL_law 750 = .ok (.iadd, 1) := by decide +kernel
theorem dL_law_751 : decode cL_law 751 = .ok (.iaload, 1) := by decide +kernel
theorem dL_law_752 : decode cL_law 752 = .ok (.invokevirtual 87, 3) := by decide +kernel
theorem dL_law_755 : decode cL_law 755 = .ok (.aload_n 2, 1) := by decide +kernel
theorem dL_law_756 : decode cL_law 756 = .ok (.aload_n 0, 1) := by decide +kernel
theorem dL_law_757 : decode cL_law 757 = .ok (.iload_n 3, 1) := by decide +kernel
theorem dL_law_758 : decode cL_law 758 = .ok (.iconst 1, 1) := by decide +kernel
theorem dL_law_759 : decode cL_law 759 = .ok (.iadd, 1) := by decide +kernel
theorem dL_law_760 : decode cL_law 760 = .ok (.iaload, 1) := by decide +kernel
theorem dL_law_761 : decode cL_law 761 = .ok (.aload_n 0, 1) := by decide +kernel
theorem dL_law_762 : decode cL_law 762 = .ok (.iload_n 3, 1) := by decide +kernel
theorem dL_law_763 : decode cL_law 763 = .ok (.iconst 2, 1) := by decide +kernel
theorem dL_law_764 : decode cL_law 764 = .ok (.iadd, 1) := by decide +kernel
theorem dL_law_765 : decode cL_law 765 = .ok (.iaload, 1) := by decide +kernel
theorem dL_law_766 : decode cL_law 766 = .ok (.invokevirtual 90, 3) := by decide +kernel
theorem dL_law_769 : decode cL_law 769 = .ok (.if_icmp .eq 482, 3) := by decide +kernel
theorem dL_law_772 : decode cL_law 772 = .ok (.iconst 0, 1) := by decide +kernel
theorem dL_law_773 : decode cL_law 773 = .ok (.ireturn, 1) := by decide +kernel
theorem dL_law_774 : decode cL_law 774 = .ok (.aload_n 1, 1) := by decide +kernel
theorem dL_law_775 : decode cL_law 775 = .ok (.aload_n 0, 1) := by decide +kernel
theorem dL_law_776 : decode cL_law 776 = .ok (.iload_n 3, 1) := by decide +kernel
theorem dL_law_777 : decode cL_law 777 = .ok (.iconst 1, 1) := by decide +kernel
theorem dL_law_778 : decode cL_law 778 = .ok (.iadd, 1) := by decide +kernel
theorem dL_law_779 : decode cL_law 779 = .ok (.iaload, 1) := by decide +kernel
theorem dL_law_780 : decode cL_law 780 = .ok (.aload_n 0, 1) := by decide +kernel
theorem dL_law_781 : decode cL_law 781 = .ok (.iload_n 3, 1) := by decide +kernel
theorem dL_law_782 : decode cL_law 782 = .ok (.iconst 2, 1) := by decide +kernel
theorem dL_law_783 : decode cL_law 783 = .ok (.iadd, 1) := by decide +kernel
theorem dL_law_784 : decode cL_law 784 = .ok (.iaload, 1) := by decide +kernel
theorem dL_law_785 : decode cL_law 785 = .ok (.invokevirtual 91, 3) := by decide +kernel
theorem dL_law_788 : decode cL_law 788 = .ok (.aload_n 2, 1) := by decide +kernel
theorem dL_law_789 : decode cL_law 789 = .ok (.aload_n 0, 1) := by decide +kernel
theorem dL_law_790 : decode cL_law 790 = .ok (.iload_n 3, 1) := by decide +kernel
theorem dL_law_791 : decode cL_law 791 = .ok (.iconst 1, 1) := by decide +kernel
theorem dL_law_792 : decode cL_law 792 = .ok (.iadd, 1) := by decide +kernel
theorem dL_law_793 : decode cL_law 793 = .ok (.iaload, 1) := by decide +kernel
theorem dL_law_794 : decode cL_law 794 = .ok (.aload_n 0, 1) := by decide +kernel
theorem dL_law_795 : decode cL_law 795 = .ok (.iload_n 3, 1) := by decide +kernel
theorem dL_law_796 : decode cL_law 796 = .ok (.iconst 2, 1) := by decide +kernel
theorem dL_law_797 : decode cL_law 797 = .ok (.iadd, 1) := by decide +kernel
theorem dL_law_798 : decode cL_law 798 = .ok (.iaload, 1) := by decide +kernel
theorem dL_law_799 : decode cL_law 799 = .ok (.invokevirtual 94, 3) := by decide +kernel
theorem dL_law_802 : decode cL_law 802 = .ok (.if_icmp .eq 449, 3) := by decide +kernel
theorem dL_law_805 : decode cL_law 805 = .ok (.iconst 0, 1) := by decide +kernel
theorem dL_law_806 : decode cL_law 806 = .ok (.ireturn, 1) := by decide +kernel
theorem dL_law_807 : decode cL_law 807 = .ok (.aload_n 1, 1) := by decide +kernel
theorem dL_law_808 : decode cL_law 808 = .ok (.aload_n 0, 1) := by decide +kernel
theorem dL_law_809 : decode cL_law 809 = .ok (.iload_n 3, 1) := by decide +kernel
theorem dL_law_810 : decode cL_law 810 = .ok (.iconst 1, 1) := by decide +kernel
theorem dL_law_811 : decode cL_law 811 = .ok (.iadd, 1) := by decide +kernel
theorem dL_law_812 : decode cL_law 812 = .ok (.iaload, 1) := by decide +kernel
theorem dL_law_813 : decode cL_law 813 = .ok (.aload_n 0, 1) := by decide +kernel
theorem dL_law_814 : decode cL_law 814 = .ok (.iload_n 3, 1) := by decide +kernel
theorem dL_law_815 : decode cL_law 815 = .ok (.iconst 2, 1) := by decide +kernel
theorem dL_law_816 : decode cL_law 816 = .ok (.iadd, 1) := by decide +kernel
theorem dL_law_817 : decode cL_law 817 = .ok (.iaload, 1) := by decide +kernel
theorem dL_law_818 : decode cL_law 818 = .ok (.aload_n 0, 1) := by decide +kernel
theorem dL_law_819 : decode cL_law 819 = .ok (.iload_n 3, 1) := by decide +kernel
theorem dL_law_820 : decode cL_law 820 = .ok (.iconst 3, 1) := by decide +kernel
theorem dL_law_821 : decode cL_law 821 = .ok (.iadd, 1) := by decide +kernel
theorem dL_law_822 : decode cL_law 822 = .ok (.iaload, 1) := by decide +kernel
theorem dL_law_823 : decode cL_law 823 = .ok (.invokevirtual 95, 3) := by decide +kernel
theorem dL_law_826 : decode cL_law 826 = .ok (.aload_n 2, 1) := by decide +kernel
theorem dL_law_827 : decode cL_law 827 = .ok (.aload_n 0, 1) := by decide +kernel
theorem dL_law_828 : decode cL_law 828 = .ok (.iload_n 3, 1) := by decide +kernel
theorem dL_law_829 : decode cL_law 829 = .ok (.iconst 1, 1) := by decide +kernel
theorem dL_law_830 : decode cL_law 830 = .ok (.iadd, 1) := by decide +kernel
theorem dL_law_831 : decode cL_law 831 = .ok (.iaload, 1) := by decide +kernel
theorem dL_law_832 : decode cL_law 832 = .ok (.aload_n 0, 1) := by decide +kernel
theorem dL_law_833 : decode cL_law 833 = .ok (.iload_n 3, 1) := by decide +kernel
theorem dL_law_834 : decode cL_law 834 = .ok (.iconst 2, 1) := by decide +kernel
theorem dL_law_835 : decode cL_law 835 = .ok (.iadd, 1) := by decide +kernel
theorem dL_law_836 : decode cL_law 836 = .ok (.iaload, 1) := by decide +kernel
theorem dL_law_837 : decode cL_law 837 = .ok (.aload_n 0, 1) := by decide +kernel
theorem dL_law_838 : decode cL_law 838 = .ok (.iload_n 3, 1) := by decide +kernel
theorem dL_law_839 : decode cL_law 839 = .ok (.iconst 3, 1) := by decide +kernel
theorem dL_law_840 : decode cL_law 840 = .ok (.iadd, 1) := by decide +kernel
theorem dL_law_841 : decode cL_law 841 = .ok (.iaload, 1) := by decide +kernel
theorem dL_law_842 : decode cL_law 842 = .ok (.invokevirtual 99, 3) := by decide +kernel
theorem dL_law_845 : decode cL_law 845 = .ok (.lcmp, 1) := by decide +kernel
theorem dL_law_846 : decode cL_law 846 = .ok (.ifCond .eq 405, 3) := by decide +kernel
theorem dL_law_849 : decode cL_law 849 = .ok (.iconst 0, 1) := by decide +kernel
theorem dL_law_850 : decode cL_law 850 = .ok (.ireturn, 1) := by decide +kernel
theorem dL_law_851 : decode cL_law 851 = .ok (.aload_n 1, 1) := by decide +kernel
theorem dL_law_852 : decode cL_law 852 = .ok (.aload_n 0, 1) := by decide +kernel
theorem dL_law_853 : decode cL_law 853 = .ok (.iload_n 3, 1) := by decide +kernel
theorem dL_law_854 : decode cL_law 854 = .ok (.iconst 1, 1) := by decide +kernel
theorem dL_law_855 : decode cL_law 855 = .ok (.iadd, 1) := by decide +kernel
theorem dL_law_856 : decode cL_law 856 = .ok (.iaload, 1) := by decide +kernel
theorem dL_law_857 : decode cL_law 857 = .ok (.aload_n 0, 1) := by decide +kernel
theorem dL_law_858 : decode cL_law 858 = .ok (.iload_n 3, 1) := by decide +kernel
theorem dL_law_859 : decode cL_law 859 = .ok (.iconst 2, 1) := by decide +kernel
theorem dL_law_860 : decode cL_law 860 = .ok (.iadd, 1) := by decide +kernel
theorem dL_law_861 : decode cL_law 861 = .ok (.iaload, 1) := by decide +kernel
theorem dL_law_862 : decode cL_law 862 = .ok (.invokevirtual 100, 3) := by decide +kernel
theorem dL_law_865 : decode cL_law 865 = .ok (.aload_n 2, 1) := by decide +kernel
theorem dL_law_866 : decode cL_law 866 = .ok (.aload_n 0, 1) := by decide +kernel
theorem dL_law_867 : decode cL_law 867 = .ok (.iload_n 3, 1) := by decide +kernel
theorem dL_law_868 : decode cL_law 868 = .ok (.iconst 1, 1) := by decide +kernel
theorem dL_law_869 : decode cL_law 869 = .ok (.iadd, 1) := by decide +kernel
theorem dL_law_870 : decode cL_law 870 = .ok (.iaload, 1) := by decide +kernel
theorem dL_law_871 : decode cL_law 871 = .ok (.aload_n 0, 1) := by decide +kernel
theorem dL_law_872 : decode cL_law 872 = .ok (.iload_n 3, 1) := by decide +kernel
theorem dL_law_873 : decode cL_law 873 = .ok (.iconst 2, 1) := by decide +kernel
theorem dL_law_874 : decode cL_law 874 = .ok (.iadd, 1) := by decide +kernel
theorem dL_law_875 : decode cL_law 875 = .ok (.iaload, 1) := by decide +kernel
theorem dL_law_876 : decode cL_law 876 = .ok (.invokevirtual 103, 3) := by decide +kernel
theorem dL_law_879 : decode cL_law 879 = .ok (.if_icmp .eq 372, 3) := by decide +kernel
theorem dL_law_882 : decode cL_law 882 = .ok (.iconst 0, 1) := by decide +kernel
theorem dL_law_883 : decode cL_law 883 = .ok (.ireturn, 1) := by decide +kernel
theorem dL_law_884 : decode cL_law 884 = .ok (.aload_n 1, 1) := by decide +kernel
theorem dL_law_885 : decode cL_law 885 = .ok (.aload_n 0, 1) := by decide +kernel
theorem dL_law_886 : decode cL_law 886 = .ok (.iload_n 3, 1) := by decide +kernel
theorem dL_law_887 : decode cL_law 887 = .ok (.iconst 1, 1) := by decide +kernel
theorem dL_law_888 : decode cL_law 888 = .ok (.iadd, 1) := by decide +kernel
theorem dL_law_889 : decode cL_law 889 = .ok (.iaload, 1) := by decide +kernel
theorem dL_law_890 : decode cL_law 890 = .ok (.aload_n 0, 1) := by decide +kernel
theorem dL_law_891 : decode cL_law 891 = .ok (.iload_n 3, 1) := by decide +kernel
theorem dL_law_892 : decode cL_law 892 = .ok (.iconst 2, 1) := by decide +kernel
theorem dL_law_893 : decode cL_law 893 = .ok (.iadd, 1) := by decide +kernel
theorem dL_law_894 : decode cL_law 894 = .ok (.iaload, 1) := by decide +kernel
theorem dL_law_895 : decode cL_law 895 = .ok (.invokevirtual 104, 3) := by decide +kernel
theorem dL_law_898 : decode cL_law 898 = .ok (.aload_n 2, 1) := by decide +kernel
theorem dL_law_899 : decode cL_law 899 = .ok (.aload_n 0, 1) := by decide +kernel
theorem dL_law_900 : decode cL_law 900 = .ok (.iload_n 3, 1) := by decide +kernel
theorem dL_law_901 : decode cL_law 901 = .ok (.iconst 1, 1) := by decide +kernel
theorem dL_law_902 : decode cL_law 902 = .ok (.iadd, 1) := by decide +kernel
theorem dL_law_903 : decode cL_law 903 = .ok (.iaload, 1) := by decide +kernel
theorem dL_law_904 : decode cL_law 904 = .ok (.aload_n 0, 1) := by decide +kernel
theorem dL_law_905 : decode cL_law 905 = .ok (.iload_n 3, 1) := by decide +kernel
theorem dL_law_906 : decode cL_law 906 = .ok (.iconst 2, 1) := by decide +kernel
theorem dL_law_907 : decode cL_law 907 = .ok (.iadd, 1) := by decide +kernel
theorem dL_law_908 : decode cL_law 908 = .ok (.iaload, 1) := by decide +kernel
theorem dL_law_909 : decode cL_law 909 = .ok (.invokevirtual 107, 3) := by decide +kernel
theorem dL_law_912 : decode cL_law 912 = .ok (.if_icmp .eq 339, 3) := by decide +kernel
theorem dL_law_915 : decode cL_law 915 = .ok (.iconst 0, 1) := by decide +kernel
theorem dL_law_916 : decode cL_law 916 = .ok (.ireturn, 1) := by decide +kernel
theorem dL_law_917 : decode cL_law 917 = .ok (.aload_n 1, 1) := by decide +kernel
theorem dL_law_918 : decode cL_law 918 = .ok (.aload_n 0, 1) := by decide +kernel
theorem dL_law_919 : decode cL_law 919 = .ok (.iload_n 3, 1) := by decide +kernel
theorem dL_law_920 : decode cL_law 920 = .ok (.iconst 1, 1) := by decide +kernel
theorem dL_law_921 : decode cL_law 921 = .ok (.iadd, 1) := by decide +kernel
theorem dL_law_922 : decode cL_law 922 = .ok (.iaload, 1) := by decide +kernel
theorem dL_law_923 : decode cL_law 923 = .ok (.aload_n 0, 1) := by decide +kernel
theorem dL_law_924 : decode cL_law 924 = .ok (.iload_n 3, 1) := by decide +kernel
theorem dL_law_925 : decode cL_law 925 = .ok (.iconst 2, 1) := by decide +kernel
theorem dL_law_926 : decode cL_law 926 = .ok (.iadd, 1) := by decide +kernel
theorem dL_law_927 : decode cL_law 927 = .ok (.iaload, 1) := by decide +kernel
theorem dL_law_928 : decode cL_law 928 = .ok (.invokevirtual 108, 3) := by decide +kernel
theorem dL_law_931 : decode cL_law 931 = .ok (.aload_n 2, 1) := by decide +kernel
theorem dL_law_932 : decode cL_law 932 = .ok (.aload_n 0, 1) := by decide +kernel
theorem dL_law_933 : decode cL_law 933 = .ok (.iload_n 3, 1) := by decide +kernel
theorem dL_law_934 : decode cL_law 934 = .ok (.iconst 1, 1) := by decide +kernel
theorem dL_law_935 : decode cL_law 935 = .ok (.iadd, 1) := by decide +kernel
theorem dL_law_936 : decode cL_law 936 = .ok (.iaload, 1) := by decide +kernel
theorem dL_law_937 : decode cL_law 937 = .ok (.aload_n 0, 1) := by decide +kernel
theorem dL_law_938 : decode cL_law 938 = .ok (.iload_n 3, 1) := by decide +kernel
theorem dL_law_939 : decode cL_law 939 = .ok (.iconst 2, 1) := by decide +kernel
theorem dL_law_940 : decode cL_law 940 = .ok (.iadd, 1) := by decide +kernel
theorem dL_law_941 : decode cL_law 941 = .ok (.iaload, 1) := by decide +kernel
theorem dL_law_942 : decode cL_law 942 = .ok (.invokevirtual 111, 3) := by decide +kernel
theorem dL_law_945 : decode cL_law 945 = .ok (.if_icmp .eq 306, 3) := by decide +kernel
theorem dL_law_948 : decode cL_law 948 = .ok (.iconst 0, 1) := by decide +kernel
theorem dL_law_949 : decode cL_law 949 = .ok (.ireturn, 1) := by decide +kernel
theorem dL_law_950 : decode cL_law 950 = .ok (.aload_n 1, 1) := by decide +kernel
theorem dL_law_951 : decode cL_law 951 = .ok (.aload_n 0, 1) := by decide +kernel
theorem dL_law_952 : decode cL_law 952 = .ok (.iload_n 3, 1) := by decide +kernel
theorem dL_law_953 : decode cL_law 953 = .ok (.iconst 1, 1) := by decide +kernel
theorem dL_law_954 : decode cL_law 954 = .ok (.iadd, 1) := by decide +kernel
theorem dL_law_955 : decode cL_law 955 = .ok (.iaload, 1) := by decide +kernel
theorem dL_law_956 : decode cL_law 956 = .ok (.aload_n 0, 1) := by decide +kernel
theorem dL_law_957 : decode cL_law 957 = .ok (.iload_n 3, 1) := by decide +kernel
theorem dL_law_958 : decode cL_law 958 = .ok (.iconst 2, 1) := by decide +kernel
theorem dL_law_959 : decode cL_law 959 = .ok (.iadd, 1) := by decide +kernel
theorem dL_law_960 : decode cL_law 960 = .ok (.iaload, 1) := by decide +kernel
theorem dL_law_961 : decode cL_law 961 = .ok (.invokevirtual 112, 3) := by decide +kernel
theorem dL_law_964 : decode cL_law 964 = .ok (.aload_n 2, 1) := by decide +kernel
theorem dL_law_965 : decode cL_law 965 = .ok (.aload_n 0, 1) := by decide +kernel
theorem dL_law_966 : decode cL_law 966 = .ok (.iload_n 3, 1) := by decide +kernel
theorem dL_law_967 : decode cL_law 967 = .ok (.iconst 1, 1) := by decide +kernel
theorem dL_law_968 : decode cL_law 968 = .ok (.iadd, 1) := by decide +kernel
theorem dL_law_969 : decode cL_law 969 = .ok (.iaload, 1) := by decide +kernel
theorem dL_law_970 : decode cL_law 970 = .ok (.aload_n 0, 1) := by decide +kernel
theorem dL_law_971 : decode cL_law 971 = .ok (.iload_n 3, 1) := by decide +kernel
theorem dL_law_972 : decode cL_law 972 = .ok (.iconst 2, 1) := by decide +kernel
theorem dL_law_973 : decode cL_law 973 = .ok (.iadd, 1) := by decide +kernel
theorem dL_law_974 : decode cL_law 974 = .ok (.iaload, 1) := by decide +kernel
theorem dL_law_975 : decode cL_law 975 = .ok (.invokevirtual 115, 3) := by decide +kernel
theorem dL_law_978 : decode cL_law 978 = .ok (.if_icmp .eq 273, 3) := by decide +kernel
theorem dL_law_981 : decode cL_law 981 = .ok (.iconst 0, 1) := by decide +kernel
theorem dL_law_982 : decode cL_law 982 = .ok (.ireturn, 1) := by decide +kernel
theorem dL_law_983 : decode cL_law 983 = .ok (.aload_n 1, 1) := by decide +kernel
theorem dL_law_984 : decode cL_law 984 = .ok (.aload_n 0, 1) := by decide +kernel
theorem dL_law_985 : decode cL_law 985 = .ok (.iload_n 3, 1) := by decide +kernel
theorem dL_law_986 : decode cL_law 986 = .ok (.iconst 1, 1) := by decide +kernel
theorem dL_law_987 : decode cL_law 987 = .ok (.iadd, 1) := by decide +kernel
theorem dL_law_988 : decode cL_law 988 = .ok (.iaload, 1) := by decide +kernel
theorem dL_law_989 : decode cL_law 989 = .ok (.aload_n 0, 1) := by decide +kernel
theorem dL_law_990 : decode cL_law 990 = .ok (.iload_n 3, 1) := by decide +kernel
theorem dL_law_991 : decode cL_law 991 = .ok (.iconst 2, 1) := by decide +kernel
theorem dL_law_992 : decode cL_law 992 = .ok (.iadd, 1) := by decide +kernel
theorem dL_law_993 : decode cL_law 993 = .ok (.iaload, 1) := by decide +kernel
theorem dL_law_994 : decode cL_law 994 = .ok (.invokevirtual 116, 3) := by decide +kernel
theorem dL_law_997 : decode cL_law 997 = .ok (.aload_n 2, 1) := by decide +kernel
theorem dL_law_998 : decode cL_law 998 = .ok (.aload_n 0, 1) := by decide +kernel
theorem dL_law_999 : decode cL_law 999 = .ok (.iload_n 3, 1) := by decide +kernel
theorem dL_law_1000 : decode cL_law 1000 = .ok (.iconst 1, 1) := by decide +kernel
theorem dL_law_1001 : decode cL_law 1001 = .ok (.iadd, 1) := by decide +kernel
theorem dL_law_1002 : decode cL_law 1002 = .ok (.iaload, 1) := by decide +kernel
theorem dL_law_1003 : decode cL_law 1003 = .ok (.aload_n 0, 1) := by decide +kernel
theorem dL_law_1004 : decode cL_law 1004 = .ok (.iload_n 3, 1) := by decide +kernel
theorem dL_law_1005 : decode cL_law 1005 = .ok (.iconst 2, 1) := by decide +kernel
theorem dL_law_1006 : decode cL_law 1006 = .ok (.iadd, 1) := by decide +kernel
theorem dL_law_1007 : decode cL_law 1007 = .ok (.iaload, 1) := by decide +kernel
theorem dL_law_1008 : decode cL_law 1008 = .ok (.invokevirtual 120, 3) := by decide +kernel
theorem dL_law_1011 : decode cL_law 1011 = .ok (.lcmp, 1) := by decide +kernel
theorem dL_law_1012 : decode cL_law 1012 = .ok (.ifCond .eq 239, 3) := by decide +kernel
theorem dL_law_1015 : decode cL_law 1015 = .ok (.iconst 0, 1) := by decide +kernel
theorem dL_law_1016 : decode cL_law 1016 = .ok (.ireturn, 1) := by decide +kernel
theorem dL_law_1017 : decode cL_law 1017 = .ok (.aload_n 1, 1) := by decide +kernel
theorem dL_law_1018 : decode cL_law 1018 = .ok (.aload_n 0, 1) := by decide +kernel
theorem dL_law_1019 : decode cL_law 1019 = .ok (.iload_n 3, 1) := by decide +kernel
theorem dL_law_1020 : decode cL_law 1020 = .ok (.iconst 1, 1) := by decide +kernel
theorem dL_law_1021 : decode cL_law 1021 = .ok (.iadd, 1) := by decide +kernel
theorem dL_law_1022 : decode cL_law 1022 = .ok (.iaload, 1) := by decide +kernel
theorem dL_law_1023 : decode cL_law 1023 = .ok (.aload_n 0, 1) := by decide +kernel
theorem dL_law_1024 : decode cL_law 1024 = .ok (.iload_n 3, 1) := by decide +kernel
theorem dL_law_1025 : decode cL_law 1025 = .ok (.iconst 2, 1) := by decide +kernel
theorem dL_law_1026 : decode cL_law 1026 = .ok (.iadd, 1) := by decide +kernel
theorem dL_law_1027 : decode cL_law 1027 = .ok (.iaload, 1) := by decide +kernel
theorem dL_law_1028 : decode cL_law 1028 = .ok (.invokevirtual 121, 3) := by decide +kernel
theorem dL_law_1031 : decode cL_law 1031 = .ok (.aload_n 2, 1) := by decide +kernel
theorem dL_law_1032 : decode cL_law 1032 = .ok (.aload_n 0, 1) := by decide +kernel
theorem dL_law_1033 : decode cL_law 1033 = .ok (.iload_n 3, 1) := by decide +kernel
theorem dL_law_1034 : decode cL_law 1034 = .ok (.iconst 1, 1) := by decide +kernel
theorem dL_law_1035 : decode cL_law 1035 = .ok (.iadd, 1) := by decide +kernel
theorem dL_law_1036 : decode cL_law 1036 = .ok (.iaload, 1) := by decide +kernel
theorem dL_law_1037 : decode cL_law 1037 = .ok (.aload_n 0, 1) := by decide +kernel
theorem dL_law_1038 : decode cL_law 1038 = .ok (.iload_n 3, 1) := by decide +kernel
theorem dL_law_1039 : decode cL_law 1039 = .ok (.iconst 2, 1) := by decide +kernel
theorem dL_law_1040 : decode cL_law 1040 = .ok (.iadd, 1) := by decide +kernel
theorem dL_law_1041 : decode cL_law 1041 = .ok (.iaload, 1) := by decide +kernel
theorem dL_law_1042 : decode cL_law 1042 = .ok (.invokevirtual 124, 3) := by decide +kernel
theorem dL_law_1045 : decode cL_law 1045 = .ok (.if_icmp .eq 206, 3) := by decide +kernel
theorem dL_law_1048 : decode cL_law 1048 = .ok (.iconst 0, 1) := by decide +kernel
theorem dL_law_1049 : decode cL_law 1049 = .ok (.ireturn, 1) := by decide +kernel
theorem dL_law_1050 : decode cL_law 1050 = .ok (.aload_n 1, 1) := by decide +kernel
theorem dL_law_1051 : decode cL_law 1051 = .ok (.aload_n 0, 1) := by decide +kernel
theorem dL_law_1052 : decode cL_law 1052 = .ok (.iload_n 3, 1) := by decide +kernel
theorem dL_law_1053 : decode cL_law 1053 = .ok (.iconst 1, 1) := by decide +kernel
theorem dL_law_1054 : decode cL_law 1054 = .ok (.iadd, 1) := by decide +kernel
theorem dL_law_1055 : decode cL_law 1055 = .ok (.iaload, 1) := by decide +kernel
theorem dL_law_1056 : decode cL_law 1056 = .ok (.aload_n 0, 1) := by decide +kernel
theorem dL_law_1057 : decode cL_law 1057 = .ok (.iload_n 3, 1) := by decide +kernel
theorem dL_law_1058 : decode cL_law 1058 = .ok (.iconst 2, 1) := by decide +kernel
theorem dL_law_1059 : decode cL_law 1059 = .ok (.iadd, 1) := by decide +kernel
theorem dL_law_1060 : decode cL_law 1060 = .ok (.iaload, 1) := by decide +kernel
theorem dL_law_1061 : decode cL_law 1061 = .ok (.aload_n 0, 1) := by decide +kernel
theorem dL_law_1062 : decode cL_law 1062 = .ok (.iload_n 3, 1) := by decide +kernel
theorem dL_law_1063 : decode cL_law 1063 = .ok (.iconst 3, 1) := by decide +kernel
theorem dL_law_1064 : decode cL_law 1064 = .ok (.iadd, 1) := by decide +kernel
theorem dL_law_1065 : decode cL_law 1065 = .ok (.iaload, 1) := by decide +kernel
theorem dL_law_1066 : decode cL_law 1066 = .ok (.invokevirtual 125, 3) := by decide +kernel
theorem dL_law_1069 : decode cL_law 1069 = .ok (.aload_n 2, 1) := by decide +kernel
theorem dL_law_1070 : decode cL_law 1070 = .ok (.aload_n 0, 1) := by decide +kernel
theorem dL_law_1071 : decode cL_law 1071 = .ok (.iload_n 3, 1) := by decide +kernel
theorem dL_law_1072 : decode cL_law 1072 = .ok (.iconst 1, 1) := by decide +kernel
theorem dL_law_1073 : decode cL_law 1073 = .ok (.iadd, 1) := by decide +kernel
theorem dL_law_1074 : decode cL_law 1074 = .ok (.iaload, 1) := by decide +kernel
theorem dL_law_1075 : decode cL_law 1075 = .ok (.aload_n 0, 1) := by decide +kernel
theorem dL_law_1076 : decode cL_law 1076 = .ok (.iload_n 3, 1) := by decide +kernel
theorem dL_law_1077 : decode cL_law 1077 = .ok (.iconst 2, 1) := by decide +kernel
theorem dL_law_1078 : decode cL_law 1078 = .ok (.iadd, 1) := by decide +kernel
theorem dL_law_1079 : decode cL_law 1079 = .ok (.iaload, 1) := by decide +kernel
theorem dL_law_1080 : decode cL_law 1080 = .ok (.aload_n 0, 1) := by decide +kernel
theorem dL_law_1081 : decode cL_law 1081 = .ok (.iload_n 3, 1) := by decide +kernel
theorem dL_law_1082 : decode cL_law 1082 = .ok (.iconst 3, 1) := by decide +kernel
theorem dL_law_1083 : decode cL_law 1083 = .ok (.iadd, 1) := by decide +kernel
theorem dL_law_1084 : decode cL_law 1084 = .ok (.iaload, 1) := by decide +kernel
theorem dL_law_1085 : decode cL_law 1085 = .ok (.invokevirtual 128, 3) := by decide +kernel
theorem dL_law_1088 : decode cL_law 1088 = .ok (.if_icmp .eq 163, 3) := by decide +kernel
theorem dL_law_1091 : decode cL_law 1091 = .ok (.iconst 0, 1) := by decide +kernel
theorem dL_law_1092 : decode cL_law 1092 = .ok (.ireturn, 1) := by decide +kernel
theorem dL_law_1093 : decode cL_law 1093 = .ok (.aload_n 1, 1) := by decide +kernel
theorem dL_law_1094 : decode cL_law 1094 = .ok (.aload_n 0, 1) := by decide +kernel
theorem dL_law_1095 : decode cL_law 1095 = .ok (.iload_n 3, 1) := by decide +kernel
theorem dL_law_1096 : decode cL_law 1096 = .ok (.iconst 1, 1) := by decide +kernel
theorem dL_law_1097 : decode cL_law 1097 = .ok (.iadd, 1) := by decide +kernel
theorem dL_law_1098 : decode cL_law 1098 = .ok (.iaload, 1) := by decide +kernel
theorem dL_law_1099 : decode cL_law 1099 = .ok (.aload_n 0, 1) := by decide +kernel
theorem dL_law_1100 : decode cL_law 1100 = .ok (.iload_n 3, 1) := by decide +kernel
theorem dL_law_1101 : decode cL_law 1101 = .ok (.iconst 2, 1) := by decide +kernel
theorem dL_law_1102 : decode cL_law 1102 = .ok (.iadd, 1) := by decide +kernel
theorem dL_law_1103 : decode cL_law 1103 = .ok (.iaload, 1) := by decide +kernel
theorem dL_law_1104 : decode cL_law 1104 = .ok (.aload_n 0, 1) := by decide +kernel
theorem dL_law_1105 : decode cL_law 1105 = .ok (.iload_n 3, 1) := by decide +kernel
theorem dL_law_1106 : decode cL_law 1106 = .ok (.iconst 3, 1) := by decide +kernel
theorem dL_law_1107 : decode cL_law 1107 = .ok (.iadd, 1) := by decide +kernel
theorem dL_law_1108 : decode cL_law 1108 = .ok (.iaload, 1) := by decide +kernel
theorem dL_law_1109 : decode cL_law 1109 = .ok (.invokevirtual 129, 3) := by decide +kernel
theorem dL_law_1112 : decode cL_law 1112 = .ok (.aload_n 2, 1) := by decide +kernel
theorem dL_law_1113 : decode cL_law 1113 = .ok (.aload_n 0, 1) := by decide +kernel
theorem dL_law_1114 : decode cL_law 1114 = .ok (.iload_n 3, 1) := by decide +kernel
theorem dL_law_1115 : decode cL_law 1115 = .ok (.iconst 1, 1) := by decide +kernel
theorem dL_law_1116 : decode cL_law 1116 = .ok (.iadd, 1) := by decide +kernel
theorem dL_law_1117 : decode cL_law 1117 = .ok (.iaload, 1) := by decide +kernel
theorem dL_law_1118 : decode cL_law 1118 = .ok (.aload_n 0, 1) := by decide +kernel
theorem dL_law_1119 : decode cL_law 1119 = .ok (.iload_n 3, 1) := by decide +kernel
theorem dL_law_1120 : decode cL_law 1120 = .ok (.iconst 2, 1) := by decide +kernel
theorem dL_law_1121 : decode cL_law 1121 = .ok (.iadd, 1) := by decide +kernel
theorem dL_law_1122 : decode cL_law 1122 = .ok (.iaload, 1) := by decide +kernel
theorem dL_law_1123 : decode cL_law 1123 = .ok (.aload_n 0, 1) := by decide +kernel
theorem dL_law_1124 : decode cL_law 1124 = .ok (.iload_n 3, 1) := by decide +kernel
theorem dL_law_1125 : decode cL_law 1125 = .ok (.iconst 3, 1) := by decide +kernel
theorem dL_law_1126 : decode cL_law 1126 = .ok (.iadd, 1) := by decide +kernel
theorem dL_law_1127 : decode cL_law 1127 = .ok (.iaload, 1) := by decide +kernel
theorem dL_law_1128 : decode cL_law 1128 = .ok (.invokevirtual 132, 3) := by decide +kernel
theorem dL_law_1131 : decode cL_law 1131 = .ok (.if_icmp .eq 120, 3) := by decide +kernel
theorem dL_law_1134 : decode cL_law 1134 = .ok (.iconst 0, 1) := by decide +kernel
theorem dL_law_1135 : decode cL_law 1135 = .ok (.ireturn, 1) := by decide +kernel
theorem dL_law_1136 : decode cL_law 1136 = .ok (.aload_n 1, 1) := by decide +kernel
theorem dL_law_1137 : decode cL_law 1137 = .ok (.aload_n 0, 1) := by decide +kernel
theorem dL_law_1138 : decode cL_law 1138 = .ok (.iload_n 3, 1) := by decide +kernel
theorem dL_law_1139 : decode cL_law 1139 = .ok (.iconst 1, 1) := by decide +kernel
theorem dL_law_1140 : decode cL_law 1140 = .ok (.iadd, 1) := by decide +kernel
theorem dL_law_1141 : decode cL_law 1141 = .ok (.iaload, 1) := by decide +kernel
theorem dL_law_1142 : decode cL_law 1142 = .ok (.invokevirtual 133, 3) := by decide +kernel
theorem dL_law_1145 : decode cL_law 1145 = .ok (.aload_n 2, 1) := by decide +kernel
theorem dL_law_1146 : decode cL_law 1146 = .ok (.aload_n 0, 1) := by decide +kernel
theorem dL_law_1147 : decode cL_law 1147 = .ok (.iload_n 3, 1) := by decide +kernel
theorem dL_law_1148 : decode cL_law 1148 = .ok (.iconst 1, 1) := by decide +kernel
theorem dL_law_1149 : decode cL_law 1149 = .ok (.iadd, 1) := by decide +kernel
theorem dL_law_1150 : decode cL_law 1150 = .ok (.iaload, 1) := by decide +kernel
theorem dL_law_1151 : decode cL_law 1151 = .ok (.invokevirtual 136, 3) := by decide +kernel
theorem dL_law_1154 : decode cL_law 1154 = .ok (.if_icmp .eq 97, 3) := by decide +kernel
theorem dL_law_1157 : decode cL_law 1157 = .ok (.iconst 0, 1) := by decide +kernel
theorem dL_law_1158 : decode cL_law 1158 = .ok (.ireturn, 1) := by decide +kernel
theorem dL_law_1159 : decode cL_law 1159 = .ok (.aload_n 1, 1) := by decide +kernel
theorem dL_law_1160 : decode cL_law 1160 = .ok (.aload_n 0, 1) := by decide +kernel
theorem dL_law_1161 : decode cL_law 1161 = .ok (.iload_n 3, 1) := by decide +kernel
theorem dL_law_1162 : decode cL_law 1162 = .ok (.iconst 1, 1) := by decide +kernel
theorem dL_law_1163 : decode cL_law 1163 = .ok (.iadd, 1) := by decide +kernel
theorem dL_law_1164 : decode cL_law 1164 = .ok (.iaload, 1) := by decide +kernel
theorem dL_law_1165 : decode cL_law 1165 = .ok (.aload_n 0, 1) := by decide +kernel
theorem dL_law_1166 : decode cL_law 1166 = .ok (.iload_n 3, 1) := by decide +kernel
theorem dL_law_1167 : decode cL_law 1167 = .ok (.iconst 2, 1) := by decide +kernel
theorem dL_law_1168 : decode cL_law 1168 = .ok (.iadd, 1) := by decide +kernel
theorem dL_law_1169 : decode cL_law 1169 = .ok (.iaload, 1) := by decide +kernel
theorem dL_law_1170 : decode cL_law 1170 = .ok (.invokevirtual 137, 3) := by decide +kernel
theorem dL_law_1173 : decode cL_law 1173 = .ok (.aload_n 2, 1) := by decide +kernel
theorem dL_law_1174 : decode cL_law 1174 = .ok (.aload_n 0, 1) := by decide +kernel
theorem dL_law_1175 : decode cL_law 1175 = .ok (.iload_n 3, 1) := by decide +kernel
theorem dL_law_1176 : decode cL_law 1176 = .ok (.iconst 1, 1) := by decide +kernel
theorem dL_law_1177 : decode cL_law 1177 = .ok (.iadd, 1) := by decide +kernel
theorem dL_law_1178 : decode cL_law 1178 = .ok (.iaload, 1) := by decide +kernel
theorem dL_law_1179 : decode cL_law 1179 = .ok (.aload_n 0, 1) := by decide +kernel
theorem dL_law_1180 : decode cL_law 1180 = .ok (.iload_n 3, 1) := by decide +kernel
theorem dL_law_1181 : decode cL_law 1181 = .ok (.iconst 2, 1) := by decide +kernel
theorem dL_law_1182 : decode cL_law 1182 = .ok (.iadd, 1) := by decide +kernel
theorem dL_law_1183 : decode cL_law 1183 = .ok (.iaload, 1) := by decide +kernel
theorem dL_law_1184 : decode cL_law 1184 = .ok (.invokevirtual 140, 3) := by decide +kernel
theorem dL_law_1187 : decode cL_law 1187 = .ok (.if_icmp .eq 64, 3) := by decide +kernel
theorem dL_law_1190 : decode cL_law 1190 = .ok (.iconst 0, 1) := by decide +kernel
theorem dL_law_1191 : decode cL_law 1191 = .ok (.ireturn, 1) := by decide +kernel
theorem dL_law_1192 : decode cL_law 1192 = .ok (.aload_n 1, 1) := by decide +kernel
theorem dL_law_1193 : decode cL_law 1193 = .ok (.aload_n 0, 1) := by decide +kernel
theorem dL_law_1194 : decode cL_law 1194 = .ok (.iload_n 3, 1) := by decide +kernel
theorem dL_law_1195 : decode cL_law 1195 = .ok (.iconst 1, 1) := by decide +kernel
theorem dL_law_1196 : decode cL_law 1196 = .ok (.iadd, 1) := by decide +kernel
theorem dL_law_1197 : decode cL_law 1197 = .ok (.iaload, 1) := by decide +kernel
theorem dL_law_1198 : decode cL_law 1198 = .ok (.invokevirtual 141, 3) := by decide +kernel
theorem dL_law_1201 : decode cL_law 1201 = .ok (.aload_n 2, 1) := by decide +kernel
theorem dL_law_1202 : decode cL_law 1202 = .ok (.aload_n 0, 1) := by decide +kernel
theorem dL_law_1203 : decode cL_law 1203 = .ok (.iload_n 3, 1) := by decide +kernel
theorem dL_law_1204 : decode cL_law 1204 = .ok (.iconst 1, 1) := by decide +kernel
theorem dL_law_1205 : decode cL_law 1205 = .ok (.iadd, 1) := by decide +kernel
theorem dL_law_1206 : decode cL_law 1206 = .ok (.iaload, 1) := by decide +kernel
theorem dL_law_1207 : decode cL_law 1207 = .ok (.invokevirtual 144, 3) := by decide +kernel
theorem dL_law_1210 : decode cL_law 1210 = .ok (.if_icmp .eq 41, 3) := by decide +kernel
theorem dL_law_1213 : decode cL_law 1213 = .ok (.iconst 0, 1) := by decide +kernel
theorem dL_law_1214 : decode cL_law 1214 = .ok (.ireturn, 1) := by decide +kernel
theorem dL_law_1215 : decode cL_law 1215 = .ok (.aload_n 1, 1) := by decide +kernel
theorem dL_law_1216 : decode cL_law 1216 = .ok (.aload_n 0, 1) := by decide +kernel
theorem dL_law_1217 : decode cL_law 1217 = .ok (.iload_n 3, 1) := by decide +kernel
theorem dL_law_1218 : decode cL_law 1218 = .ok (.iconst 1, 1) := by decide +kernel
theorem dL_law_1219 : decode cL_law 1219 = .ok (.iadd, 1) := by decide +kernel
theorem dL_law_1220 : decode cL_law 1220 = .ok (.iaload, 1) := by decide +kernel
theorem dL_law_1221 : decode cL_law 1221 = .ok (.invokevirtual 145, 3) := by decide +kernel
theorem dL_law_1224 : decode cL_law 1224 = .ok (.aload_n 2, 1) := by decide +kernel
theorem dL_law_1225 : decode cL_law 1225 = .ok (.aload_n 0, 1) := by decide +kernel
theorem dL_law_1226 : decode cL_law 1226 = .ok (.iload_n 3, 1) := by decide +kernel
theorem dL_law_1227 : decode cL_law 1227 = .ok (.iconst 1, 1) := by decide +kernel
theorem dL_law_1228 : decode cL_law 1228 = .ok (.iadd, 1) := by decide +kernel
theorem dL_law_1229 : decode cL_law 1229 = .ok (.iaload, 1) := by decide +kernel
theorem dL_law_1230 : decode cL_law 1230 = .ok (.invokevirtual 148, 3) := by decide +kernel
theorem dL_law_1233 : decode cL_law 1233 = .ok (.if_icmp .eq 18, 3) := by decide +kernel
theorem dL_law_1236 : decode cL_law 1236 = .ok (.iconst 0, 1) := by decide +kernel
theorem dL_law_1237 : decode cL_law 1237 = .ok (.ireturn, 1) := by decide +kernel
theorem dL_law_1238 : decode cL_law 1238 = .ok (.aload_n 1, 1) := by decide +kernel
theorem dL_law_1239 : decode cL_law 1239 = .ok (.invokevirtual 149, 3) := by decide +kernel
theorem dL_law_1242 : decode cL_law 1242 = .ok (.aload_n 2, 1) := by decide +kernel
theorem dL_law_1243 : decode cL_law 1243 = .ok (.invokevirtual 152, 3) := by decide +kernel
theorem dL_law_1246 : decode cL_law 1246 = .ok (.if_icmp .eq 5, 3) := by decide +kernel
theorem dL_law_1249 : decode cL_law 1249 = .ok (.iconst 0, 1) := by decide +kernel
theorem dL_law_1250 : decode cL_law 1250 = .ok (.ireturn, 1) := by decide +kernel
theorem dL_law_1251 : decode cL_law 1251 = .ok (.iinc 3 6, 3) := by decide +kernel
theorem dL_law_1254 : decode cL_law 1254 = .ok (.goto (-1236), 3) := by decide +kernel
theorem dL_law_1257 : decode cL_law 1257 = .ok (.iconst 1, 1) := by decide +kernel
theorem dL_law_1258 : decode cL_law 1258 = .ok (.ireturn, 1) := by decide +kernel
