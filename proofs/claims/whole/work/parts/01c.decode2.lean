theorem dX12_init_0 : decode cX12_init 0 = .ok (.aload_n 0, 1) := by decide +kernel
theorem dX12_init_1 : decode cX12_init 1 = .ok (.invokespecial 1, 3) := by decide +kernel
theorem dX12_init_4 : decode cX12_init 4 = .ok (.aload_n 0, 1) := by decide +kernel
theorem dX12_init_5 : decode cX12_init 5 = .ok (.sipush 8000, 3) := by decide +kernel
theorem dX12_init_8 : decode cX12_init 8 = .ok (.newarray .byte, 2) := by decide +kernel
theorem dX12_init_10 : decode cX12_init 10 = .ok (.putfield 7, 3) := by decide +kernel
theorem dX12_init_13 : decode cX12_init 13 = .ok (.aload_n 0, 1) := by decide +kernel
theorem dX12_init_14 : decode cX12_init 14 = .ok (.sipush 1728, 3) := by decide +kernel
theorem dX12_init_17 : decode cX12_init 17 = .ok (.newarray .int, 2) := by decide +kernel
theorem dX12_init_19 : decode cX12_init 19 = .ok (.putfield 13, 3) := by decide +kernel
theorem dX12_init_22 : decode cX12_init 22 = .ok (.aload_n 0, 1) := by decide +kernel
theorem dX12_init_23 : decode cX12_init 23 = .ok (.sipush 576, 3) := by decide +kernel
theorem dX12_init_26 : decode cX12_init 26 = .ok (.newarray .int, 2) := by decide +kernel
theorem dX12_init_28 : decode cX12_init 28 = .ok (.putfield 17, 3) := by decide +kernel
theorem dX12_init_31 : decode cX12_init 31 = .ok (.aload_n 0, 1) := by decide +kernel
theorem dX12_init_32 : decode cX12_init 32 = .ok (.sipush 1737, 3) := by decide +kernel
theorem dX12_init_35 : decode cX12_init 35 = .ok (.newarray .int, 2) := by decide +kernel
theorem dX12_init_37 : decode cX12_init 37 = .ok (.putfield 20, 3) := by decide +kernel
theorem dX12_init_40 : decode cX12_init 40 = .ok (.aload_n 0, 1) := by decide +kernel
theorem dX12_init_41 : decode cX12_init 41 = .ok (.sipush 579, 3) := by decide +kernel
theorem dX12_init_44 : decode cX12_init 44 = .ok (.newarray .int, 2) := by decide +kernel
theorem dX12_init_46 : decode cX12_init 46 = .ok (.putfield 23, 3) := by decide +kernel
theorem dX12_init_49 : decode cX12_init 49 = .ok (.aload_n 0, 1) := by decide +kernel
theorem dX12_init_50 : decode cX12_init 50 = .ok (.bipush 81, 2) := by decide +kernel
theorem dX12_init_52 : decode cX12_init 52 = .ok (.newarray .int, 2) := by decide +kernel
theorem dX12_init_54 : decode cX12_init 54 = .ok (.putfield 26, 3) := by decide +kernel
theorem dX12_init_57 : decode cX12_init 57 = .ok (.aload_n 0, 1) := by decide +kernel
theorem dX12_init_58 : decode cX12_init 58 = .ok (.bipush 27, 2) := by decide +kernel
theorem dX12_init_60 : decode cX12_init 60 = .ok (.newarray .int, 2) := by decide +kernel
theorem dX12_init_62 : decode cX12_init 62 = .ok (.putfield 29, 3) := by decide +kernel
theorem dX12_init_65 : decode cX12_init 65 = .ok (.aload_n 0, 1) := by decide +kernel
theorem dX12_init_66 : decode cX12_init 66 = .ok (.bipush 9, 2) := by decide +kernel
theorem dX12_init_68 : decode cX12_init 68 = .ok (.newarray .int, 2) := by decide +kernel
theorem dX12_init_70 : decode cX12_init 70 = .ok (.putfield 32, 3) := by decide +kernel
theorem dX12_init_73 : decode cX12_init 73 = .ok (.aload_n 0, 1) := by decide +kernel
theorem dX12_init_74 : decode cX12_init 74 = .ok (.iconst 3, 1) := by decide +kernel
theorem dX12_init_75 : decode cX12_init 75 = .ok (.newarray .int, 2) := by decide +kernel
theorem dX12_init_77 : decode cX12_init 77 = .ok (.putfield 35, 3) := by decide +kernel
theorem dX12_init_80 : decode cX12_init 80 = .ok (.aload_n 0, 1) := by decide +kernel
theorem dX12_init_81 : decode cX12_init 81 = .ok (.sipush 384, 3) := by decide +kernel
theorem dX12_init_84 : decode cX12_init 84 = .ok (.newarray .long, 2) := by decide +kernel
theorem dX12_init_86 : decode cX12_init 86 = .ok (.putfield 38, 3) := by decide +kernel
theorem dX12_init_89 : decode cX12_init 89 = .ok (.aload_n 0, 1) := by decide +kernel
theorem dX12_init_90 : decode cX12_init 90 = .ok (.sipush 3000, 3) := by decide +kernel
theorem dX12_init_93 : decode cX12_init 93 = .ok (.newarray .int, 2) := by decide +kernel
theorem dX12_init_95 : decode cX12_init 95 = .ok (.putfield 42, 3) := by decide +kernel
theorem dX12_init_98 : decode cX12_init 98 = .ok (.aload_n 0, 1) := by decide +kernel
theorem dX12_init_99 : decode cX12_init 99 = .ok (.sipush 3000, 3) := by decide +kernel
theorem dX12_init_102 : decode cX12_init 102 = .ok (.newarray .int, 2) := by decide +kernel
theorem dX12_init_104 : decode cX12_init 104 = .ok (.putfield 45, 3) := by decide +kernel
theorem dX12_init_107 : decode cX12_init 107 = .ok (.aload_n 0, 1) := by decide +kernel
theorem dX12_init_108 : decode cX12_init 108 = .ok (.sipush 3000, 3) := by decide +kernel
theorem dX12_init_111 : decode cX12_init 111 = .ok (.newarray .int, 2) := by decide +kernel
theorem dX12_init_113 : decode cX12_init 113 = .ok (.putfield 48, 3) := by decide +kernel
theorem dX12_init_116 : decode cX12_init 116 = .ok (.aload_n 0, 1) := by decide +kernel
theorem dX12_init_117 : decode cX12_init 117 = .ok (.sipush 3000, 3) := by decide +kernel
theorem dX12_init_120 : decode cX12_init 120 = .ok (.newarray .int, 2) := by decide +kernel
theorem dX12_init_122 : decode cX12_init 122 = .ok (.putfield 51, 3) := by decide +kernel
theorem dX12_init_125 : decode cX12_init 125 = .ok (.aload_n 0, 1) := by decide +kernel
theorem dX12_init_126 : decode cX12_init 126 = .ok (.sipush 3000, 3) := by decide +kernel
theorem dX12_init_129 : decode cX12_init 129 = .ok (.newarray .int, 2) := by decide +kernel
theorem dX12_init_131 : decode cX12_init 131 = .ok (.putfield 54, 3) := by decide +kernel
theorem dX12_init_134 : decode cX12_init 134 = .ok (.aload_n 0, 1) := by decide +kernel
theorem dX12_init_135 : decode cX12_init 135 = .ok (.sipush 3000, 3) := by decide +kernel
theorem dX12_init_138 : decode cX12_init 138 = .ok (.newarray .long, 2) := by decide +kernel
theorem dX12_init_140 : decode cX12_init 140 = .ok (.putfield 57, 3) := by decide +kernel
theorem dX12_init_143 : decode cX12_init 143 = .ok (.aload_n 0, 1) := by decide +kernel
theorem dX12_init_144 : decode cX12_init 144 = .ok (.sipush 3000, 3) := by decide +kernel
theorem dX12_init_147 : decode cX12_init 147 = .ok (.newarray .int, 2) := by decide +kernel
theorem dX12_init_149 : decode cX12_init 149 = .ok (.putfield 60, 3) := by decide +kernel
theorem dX12_init_152 : decode cX12_init 152 = .ok (.aload_n 0, 1) := by decide +kernel
theorem dX12_init_153 : decode cX12_init 153 = .ok (.sipush 3000, 3) := by decide +kernel
theorem dX12_init_156 : decode cX12_init 156 = .ok (.newarray .int, 2) := by decide +kernel
theorem dX12_init_158 : decode cX12_init 158 = .ok (.putfield 63, 3) := by decide +kernel
theorem dX12_init_161 : decode cX12_init 161 = .ok (.aload_n 0, 1) := by decide +kernel
theorem dX12_init_162 : decode cX12_init 162 = .ok (.sipush 3000, 3) := by decide +kernel
theorem dX12_init_165 : decode cX12_init 165 = .ok (.newarray .boolean, 2) := by decide +kernel
theorem dX12_init_167 : decode cX12_init 167 = .ok (.putfield 66, 3) := by decide +kernel
theorem dX12_init_170 : decode cX12_init 170 = .ok (.aload_n 0, 1) := by decide +kernel
theorem dX12_init_171 : decode cX12_init 171 = .ok (.sipush 3000, 3) := by decide +kernel
theorem dX12_init_174 : decode cX12_init 174 = .ok (.newarray .long, 2) := by decide +kernel
theorem dX12_init_176 : decode cX12_init 176 = .ok (.putfield 70, 3) := by decide +kernel
theorem dX12_init_179 : decode cX12_init 179 = .ok (.aload_n 0, 1) := by decide +kernel
theorem dX12_init_180 : decode cX12_init 180 = .ok (.sipush 3000, 3) := by decide +kernel
theorem dX12_init_183 : decode cX12_init 183 = .ok (.newarray .long, 2) := by decide +kernel
theorem dX12_init_185 : decode cX12_init 185 = .ok (.putfield 73, 3) := by decide +kernel
theorem dX12_init_188 : decode cX12_init 188 = .ok (.aload_n 0, 1) := by decide +kernel
theorem dX12_init_189 : decode cX12_init 189 = .ok (.sipush 3000, 3) := by decide +kernel
theorem dX12_init_192 : decode cX12_init 192 = .ok (.newarray .long, 2) := by decide +kernel
theorem dX12_init_194 : decode cX12_init 194 = .ok (.putfield 76, 3) := by decide +kernel
theorem dX12_init_197 : decode cX12_init 197 = .ok (.aload_n 0, 1) := by decide +kernel
theorem dX12_init_198 : decode cX12_init 198 = .ok (.sipush 320, 3) := by decide +kernel
theorem dX12_init_201 : decode cX12_init 201 = .ok (.newarray .int, 2) := by decide +kernel
theorem dX12_init_203 : decode cX12_init 203 = .ok (.putfield 79, 3) := by decide +kernel
theorem dX12_init_206 : decode cX12_init 206 = .ok (.aload_n 0, 1) := by decide +kernel
theorem dX12_init_207 : decode cX12_init 207 = .ok (.sipush 3000, 3) := by decide +kernel
theorem dX12_init_210 : decode cX12_init 210 = .ok (.newarray .int, 2) := by decide +kernel
theorem dX12_init_212 : decode cX12_init 212 = .ok (.putfield 82, 3) := by decide +kernel
theorem dX12_init_215 : decode cX12_init 215 = .ok (.return_, 1) := by decide +kernel
theorem dX12_thrown_0 : decode cX12_thrown 0 = .ok (.aload_n 0, 1) := by decide +kernel
theorem dX12_thrown_1 : decode cX12_thrown 1 = .ok (.getfield 85, 3) := by decide +kernel
theorem dX12_thrown_4 : decode cX12_thrown 4 = .ok (.ireturn, 1) := by decide +kernel
theorem dX12_in_0 : decode cX12_in 0 = .ok (.iload_n 0, 1) := by decide +kernel
theorem dX12_in_1 : decode cX12_in 1 = .ok (.iload_n 1, 1) := by decide +kernel
theorem dX12_in_2 : decode cX12_in 2 = .ok (.if_icmp .lt 12, 3) := by decide +kernel
theorem dX12_in_5 : decode cX12_in 5 = .ok (.iload_n 0, 1) := by decide +kernel
theorem dX12_in_6 : decode cX12_in 6 = .ok (.iload_n 2, 1) := by decide +kernel
theorem dX12_in_7 : decode cX12_in 7 = .ok (.if_icmp .gt 7, 3) := by decide +kernel
theorem dX12_in_10 : decode cX12_in 10 = .ok (.iconst 1, 1) := by decide +kernel
theorem dX12_in_11 : decode cX12_in 11 = .ok (.goto 4, 3) := by decide +kernel
theorem dX12_in_14 : decode cX12_in 14 = .ok (.iconst 0, 1) := by decide +kernel
theorem dX12_in_15 : decode cX12_in 15 = .ok (.ireturn, 1) := by decide +kernel
theorem dX12_goes_0 : decode cX12_goes 0 = .ok (.aload_n 0, 1) := by decide +kernel
theorem dX12_goes_1 : decode cX12_goes 1 = .ok (.iload_n 1, 1) := by decide +kernel
theorem dX12_goes_2 : decode cX12_goes 2 = .ok (.ifCond .eq 7, 3) := by decide +kernel
theorem dX12_goes_5 : decode cX12_goes 5 = .ok (.iconst 0, 1) := by decide +kernel
theorem dX12_goes_6 : decode cX12_goes 6 = .ok (.goto 4, 3) := by decide +kernel
theorem dX12_goes_9 : decode cX12_goes 9 = .ok (.iconst 1, 1) := by decide +kernel
theorem dX12_goes_10 : decode cX12_goes 10 = .ok (.putfield 85, 3) := by decide +kernel
theorem dX12_goes_13 : decode cX12_goes 13 = .ok (.iload_n 1, 1) := by decide +kernel
theorem dX12_goes_14 : decode cX12_goes 14 = .ok (.ireturn, 1) := by decide +kernel
theorem dX12_feed_0 : decode cX12_feed 0 = .ok (.aload_n 0, 1) := by decide +kernel
theorem dX12_feed_1 : decode cX12_feed 1 = .ok (.aload_n 0, 1) := by decide +kernel
theorem dX12_feed_2 : decode cX12_feed 2 = .ok (.getfield 89, 3) := by decide +kernel
theorem dX12_feed_5 : decode cX12_feed 5 = .ok (.bipush 20, 2) := by decide +kernel
theorem dX12_feed_7 : decode cX12_feed 7 = .ok (.iadd, 1) := by decide +kernel
theorem dX12_feed_8 : decode cX12_feed 8 = .ok (.sipush 8000, 3) := by decide +kernel
theorem dX12_feed_11 : decode cX12_feed 11 = .ok (.if_icmp .gt 7, 3) := by decide +kernel
theorem dX12_feed_14 : decode cX12_feed 14 = .ok (.iconst 1, 1) := by decide +kernel
theorem dX12_feed_15 : decode cX12_feed 15 = .ok (.goto 4, 3) := by decide +kernel
theorem dX12_feed_18 : decode cX12_feed 18 = .ok (.iconst 0, 1) := by decide +kernel
theorem dX12_feed_19 : decode cX12_feed 19 = .ok (.invokevirtual 92, 3) := by decide +kernel
theorem dX12_feed_22 : decode cX12_feed 22 = .ok (.ifCond .ne 5, 3) := by decide +kernel
theorem dX12_feed_25 : decode cX12_feed 25 = .ok (.iconst 0, 1) := by decide +kernel
theorem dX12_feed_26 : decode cX12_feed 26 = .ok (.ireturn, 1) := by decide +kernel
theorem dX12_feed_27 : decode cX12_feed 27 = .ok (.iconst 0, 1) := by decide +kernel
theorem dX12_feed_28 : decode cX12_feed 28 = .ok (.istore 6, 2) := by decide +kernel
theorem dX12_feed_30 : decode cX12_feed 30 = .ok (.iload 6, 2) := by decide +kernel
theorem dX12_feed_32 : decode cX12_feed 32 = .ok (.bipush 20, 2) := by decide +kernel
theorem dX12_feed_34 : decode cX12_feed 34 = .ok (.if_icmp .ge 90, 3) := by decide +kernel
theorem dX12_feed_37 : decode cX12_feed 37 = .ok (.iload 6, 2) := by decide +kernel
theorem dX12_feed_39 : decode cX12_feed 39 = .ok (.iconst 4, 1) := by decide +kernel
theorem dX12_feed_40 : decode cX12_feed 40 = .ok (.if_icmp .ge 7, 3) := by decide +kernel
theorem dX12_feed_43 : decode cX12_feed 43 = .ok (.iload_n 1, 1) := by decide +kernel
theorem dX12_feed_44 : decode cX12_feed 44 = .ok (.goto 39, 3) := by decide +kernel
theorem dX12_feed_47 : decode cX12_feed 47 = .ok (.iload 6, 2) := by decide +kernel
theorem dX12_feed_49 : decode cX12_feed 49 = .ok (.bipush 8, 2) := by decide +kernel
theorem dX12_feed_51 : decode cX12_feed 51 = .ok (.if_icmp .ge 7, 3) := by decide +kernel
theorem dX12_feed_54 : decode cX12_feed 54 = .ok (.iload_n 2, 1) := by decide +kernel
theorem dX12_feed_55 : decode cX12_feed 55 = .ok (.goto 28, 3) := by decide +kernel
theorem dX12_feed_58 : decode cX12_feed 58 = .ok (.iload 6, 2) := by decide +kernel
theorem dX12_feed_60 : decode cX12_feed 60 = .ok (.bipush 12, 2) := by decide +kernel
theorem dX12_feed_62 : decode cX12_feed 62 = .ok (.if_icmp .ge 7, 3) := by decide +kernel
theorem dX12_feed_65 : decode cX12_feed 65 = .ok (.iload_n 3, 1) := by decide +kernel
theorem dX12_feed_66 : decode cX12_feed 66 = .ok (.goto 17, 3) := by decide +kernel
theorem dX12_feed_69 : decode cX12_feed 69 = .ok (.iload 6, 2) := by decide +kernel
theorem dX12_feed_71 : decode cX12_feed 71 = .ok (.bipush 16, 2) := by decide +kernel
theorem dX12_feed_73 : decode cX12_feed 73 = .ok (.if_icmp .ge 8, 3) := by decide +kernel
theorem dX12_feed_76 : decode cX12_feed 76 = .ok (.iload 4, 2) := by decide +kernel
theorem dX12_feed_78 : decode cX12_feed 78 = .ok (.goto 5, 3) := by decide +kernel
theorem dX12_feed_81 : decode cX12_feed 81 = .ok (.iload 5, 2) := by decide +kernel
theorem dX12_feed_83 : decode cX12_feed 83 = .ok (.istore 7, 2) := by decide +kernel
theorem dX12_feed_85 : decode cX12_feed 85 = .ok (.aload_n 0, 1) := by decide +kernel
theorem dX12_feed_86 : decode cX12_feed 86 = .ok (.getfield 7, 3) := by decide +kernel
theorem dX12_feed_89 : decode cX12_feed 89 = .ok (.aload_n 0, 1) := by decide +kernel
theorem dX12_feed_90 : decode cX12_feed 90 = .ok (.getfield 89, 3) := by decide +kernel
theorem dX12_feed_93 : decode cX12_feed 93 = .ok (.iload 7, 2) := by decide +kernel
theorem dX12_feed_95 : decode cX12_feed 95 = .ok (.bipush 24, 2) := by decide +kernel
theorem dX12_feed_97 : decode cX12_feed 97 = .ok (.bipush 8, 2) := by decide +kernel
theorem dX12_feed_99 : decode cX12_feed 99 = .ok (.iload 6, 2) := by decide +kernel
theorem dX12_feed_101 : decode cX12_feed 101 = .ok (.iconst 4, 1) := by decide +kernel
theorem dX12_feed_102 : decode cX12_feed 102 = .ok (.irem, 1) := by decide +kernel
theorem dX12_feed_103 : decode cX12_feed 103 = .ok (.imul, 1) := by decide +kernel
theorem dX12_feed_104 : decode cX12_feed 104 = .ok (.isub, 1) := by decide +kernel
theorem dX12_feed_105 : decode cX12_feed 105 = .ok (.ishr, 1) := by decide +kernel
theorem dX12_feed_106 : decode cX12_feed 106 = .ok (.i2b, 1) := by decide +kernel
theorem dX12_feed_107 : decode cX12_feed 107 = .ok (.bastore, 1) := by decide +kernel
theorem dX12_feed_108 : decode cX12_feed 108 = .ok (.aload_n 0, 1) := by decide +kernel
theorem dX12_feed_109 : decode cX12_feed 109 = .ok (.dup, 1) := by decide +kernel
theorem dX12_feed_110 : decode cX12_feed 110 = .ok (.getfield 89, 3) := by decide +kernel
theorem dX12_feed_113 : decode cX12_feed 113 = .ok (.iconst 1, 1) := by decide +kernel
theorem dX12_feed_114 : decode cX12_feed 114 = .ok (.iadd, 1) := by decide +kernel
theorem dX12_feed_115 : decode cX12_feed 115 = .ok (.putfield 89, 3) := by decide +kernel
theorem dX12_feed_118 : decode cX12_feed 118 = .ok (.iinc 6 1, 3) := by decide +kernel
theorem dX12_feed_121 : decode cX12_feed 121 = .ok (.goto (-91), 3) := by decide +kernel
theorem dX12_feed_124 : decode cX12_feed 124 = .ok (.aload_n 0, 1) := by decide +kernel
theorem dX12_feed_125 : decode cX12_feed 125 = .ok (.getfield 89, 3) := by decide +kernel
theorem dX12_feed_128 : decode cX12_feed 128 = .ok (.ireturn, 1) := by decide +kernel
theorem dX12_end_0 : decode cX12_end 0 = .ok (.aload_n 0, 1) := by decide +kernel
theorem dX12_end_1 : decode cX12_end 1 = .ok (.iload_n 1, 1) := by decide +kernel
theorem dX12_end_2 : decode cX12_end 2 = .ok (.iconst 0, 1) := by decide +kernel
theorem dX12_end_3 : decode cX12_end 3 = .ok (.aload_n 0, 1) := by decide +kernel
theorem dX12_end_4 : decode cX12_end 4 = .ok (.getfield 89, 3) := by decide +kernel
theorem dX12_end_7 : decode cX12_end 7 = .ok (.invokestatic 96, 3) := by decide +kernel
theorem dX12_end_10 : decode cX12_end 10 = .ok (.invokevirtual 92, 3) := by decide +kernel
theorem dX12_end_13 : decode cX12_end 13 = .ok (.ifCond .eq 8, 3) := by decide +kernel
theorem dX12_end_16 : decode cX12_end 16 = .ok (.aload_n 0, 1) := by decide +kernel
theorem dX12_end_17 : decode cX12_end 17 = .ok (.iload_n 1, 1) := by decide +kernel
theorem dX12_end_18 : decode cX12_end 18 = .ok (.putfield 89, 3) := by decide +kernel
theorem dX12_end_21 : decode cX12_end 21 = .ok (.return_, 1) := by decide +kernel
theorem dX12_look_0 : decode cX12_look 0 = .ok (.aload_n 0, 1) := by decide +kernel
theorem dX12_look_1 : decode cX12_look 1 = .ok (.getfield 100, 3) := by decide +kernel
theorem dX12_look_4 : decode cX12_look 4 = .ok (.aload_n 0, 1) := by decide +kernel
theorem dX12_look_5 : decode cX12_look 5 = .ok (.getfield 89, 3) := by decide +kernel
theorem dX12_look_8 : decode cX12_look 8 = .ok (.if_icmp .ge 19, 3) := by decide +kernel
theorem dX12_look_11 : decode cX12_look 11 = .ok (.aload_n 0, 1) := by decide +kernel
theorem dX12_look_12 : decode cX12_look 12 = .ok (.getfield 7, 3) := by decide +kernel
theorem dX12_look_15 : decode cX12_look 15 = .ok (.aload_n 0, 1) := by decide +kernel
theorem dX12_look_16 : decode cX12_look 16 = .ok (.getfield 100, 3) := by decide +kernel
theorem dX12_look_19 : decode cX12_look 19 = .ok (.baload, 1) := by decide +kernel
theorem dX12_look_20 : decode cX12_look 20 = .ok (.sipush 255, 3) := by decide +kernel
theorem dX12_look_23 : decode cX12_look 23 = .ok (.iand, 1) := by decide +kernel
theorem dX12_look_24 : decode cX12_look 24 = .ok (.goto 4, 3) := by decide +kernel
theorem dX12_look_27 : decode cX12_look 27 = .ok (.iconst (-1), 1) := by decide +kernel
theorem dX12_look_28 : decode cX12_look 28 = .ok (.ireturn, 1) := by decide +kernel
theorem dX12_set_0 : decode cX12_set 0 = .ok (.aload_n 0, 1) := by decide +kernel
theorem dX12_set_1 : decode cX12_set 1 = .ok (.getfield 32, 3) := by decide +kernel
theorem dX12_set_4 : decode cX12_set 4 = .ok (.iconst 0, 1) := by decide +kernel
theorem dX12_set_5 : decode cX12_set 5 = .ok (.iload_n 1, 1) := by decide +kernel
theorem dX12_set_6 : decode cX12_set 6 = .ok (.iastore, 1) := by decide +kernel
theorem dX12_set_7 : decode cX12_set 7 = .ok (.aload_n 0, 1) := by decide +kernel
theorem dX12_set_8 : decode cX12_set 8 = .ok (.getfield 32, 3) := by decide +kernel
theorem dX12_set_11 : decode cX12_set 11 = .ok (.iconst 1, 1) := by decide +kernel
theorem dX12_set_12 : decode cX12_set 12 = .ok (.iload_n 2, 1) := by decide +kernel
theorem dX12_set_13 : decode cX12_set 13 = .ok (.iastore, 1) := by decide +kernel
theorem dX12_set_14 : decode cX12_set 14 = .ok (.aload_n 0, 1) := by decide +kernel
theorem dX12_set_15 : decode cX12_set 15 = .ok (.getfield 32, 3) := by decide +kernel
theorem dX12_set_18 : decode cX12_set 18 = .ok (.iconst 2, 1) := by decide +kernel
theorem dX12_set_19 : decode cX12_set 19 = .ok (.iload_n 3, 1) := by decide +kernel
theorem dX12_set_20 : decode cX12_set 20 = .ok (.iastore, 1) := by decide +kernel
theorem dX12_set_21 : decode cX12_set 21 = .ok (.aload_n 0, 1) := by decide +kernel
theorem dX12_set_22 : decode cX12_set 22 = .ok (.getfield 32, 3) := by decide +kernel
theorem dX12_set_25 : decode cX12_set 25 = .ok (.iconst 3, 1) := by decide +kernel
theorem dX12_set_26 : decode cX12_set 26 = .ok (.iload 4, 2) := by decide +kernel
theorem dX12_set_28 : decode cX12_set 28 = .ok (.iastore, 1) := by decide +kernel
theorem dX12_set_29 : decode cX12_set 29 = .ok (.aload_n 0, 1) := by decide +kernel
theorem dX12_set_30 : decode cX12_set 30 = .ok (.getfield 32, 3) := by decide +kernel
theorem dX12_set_33 : decode cX12_set 33 = .ok (.iconst 4, 1) := by decide +kernel
theorem dX12_set_34 : decode cX12_set 34 = .ok (.iload 5, 2) := by decide +kernel
theorem dX12_set_36 : decode cX12_set 36 = .ok (.iastore, 1) := by decide +kernel
theorem dX12_set_37 : decode cX12_set 37 = .ok (.aload_n 0, 1) := by decide +kernel
theorem dX12_set_38 : decode cX12_set 38 = .ok (.getfield 32, 3) := by decide +kernel
theorem dX12_set_41 : decode cX12_set 41 = .ok (.iconst 5, 1) := by decide +kernel
theorem dX12_set_42 : decode cX12_set 42 = .ok (.iload 6, 2) := by decide +kernel
theorem dX12_set_44 : decode cX12_set 44 = .ok (.iastore, 1) := by decide +kernel
theorem dX12_set_45 : decode cX12_set 45 = .ok (.aload_n 0, 1) := by decide +kernel
theorem dX12_set_46 : decode cX12_set 46 = .ok (.getfield 32, 3) := by decide +kernel
theorem dX12_set_49 : decode cX12_set 49 = .ok (.bipush 6, 2) := by decide +kernel
theorem dX12_set_51 : decode cX12_set 51 = .ok (.iload 7, 2) := by decide +kernel
theorem dX12_set_53 : decode cX12_set 53 = .ok (.iastore, 1) := by decide +kernel
theorem dX12_set_54 : decode cX12_set 54 = .ok (.aload_n 0, 1) := by decide +kernel
theorem dX12_set_55 : decode cX12_set 55 = .ok (.getfield 32, 3) := by decide +kernel
theorem dX12_set_58 : decode cX12_set 58 = .ok (.bipush 7, 2) := by decide +kernel
theorem dX12_set_60 : decode cX12_set 60 = .ok (.iload 8, 2) := by decide +kernel
theorem dX12_set_62 : decode cX12_set 62 = .ok (.iastore, 1) := by decide +kernel
theorem dX12_set_63 : decode cX12_set 63 = .ok (.aload_n 0, 1) := by decide +kernel
theorem dX12_set_64 : decode cX12_set 64 = .ok (.getfield 32, 3) := by decide +kernel
theorem dX12_set_67 : decode cX12_set 67 = .ok (.bipush 8, 2) := by decide +kernel
theorem dX12_set_69 : decode cX12_set 69 = .ok (.iload 9, 2) := by decide +kernel
theorem dX12_set_71 : decode cX12_set 71 = .ok (.iastore, 1) := by decide +kernel
theorem dX12_set_72 : decode cX12_set 72 = .ok (.return_, 1) := by decide +kernel
theorem dX12_setShift_0 : decode cX12_setShift 0 = .ok (.aload_n 0, 1) := by decide +kernel
theorem dX12_setShift_1 : decode cX12_setShift 1 = .ok (.getfield 35, 3) := by decide +kernel
theorem dX12_setShift_4 : decode cX12_setShift 4 = .ok (.iconst 0, 1) := by decide +kernel
theorem dX12_setShift_5 : decode cX12_setShift 5 = .ok (.iload_n 1, 1) := by decide +kernel
theorem dX12_setShift_6 : decode cX12_setShift 6 = .ok (.iastore, 1) := by decide +kernel
theorem dX12_setShift_7 : decode cX12_setShift 7 = .ok (.aload_n 0, 1) := by decide +kernel
theorem dX12_setShift_8 : decode cX12_setShift 8 = .ok (.getfield 35, 3) := by decide +kernel
theorem dX12_setShift_11 : decode cX12_setShift 11 = .ok (.iconst 1, 1) := by decide +kernel
theorem dX12_setShift_12 : decode cX12_setShift 12 = .ok (.iload_n 2, 1) := by decide +kernel
theorem dX12_setShift_13 : decode cX12_setShift 13 = .ok (.iastore, 1) := by decide +kernel
theorem dX12_setShift_14 : decode cX12_setShift 14 = .ok (.aload_n 0, 1) := by decide +kernel
theorem dX12_setShift_15 : decode cX12_setShift 15 = .ok (.getfield 35, 3) := by decide +kernel
theorem dX12_setShift_18 : decode cX12_setShift 18 = .ok (.iconst 2, 1) := by decide +kernel
theorem dX12_setShift_19 : decode cX12_setShift 19 = .ok (.iload_n 3, 1) := by decide +kernel
theorem dX12_setShift_20 : decode cX12_setShift 20 = .ok (.iastore, 1) := by decide +kernel
theorem dX12_setShift_21 : decode cX12_setShift 21 = .ok (.return_, 1) := by decide +kernel
theorem dX12_generate_0 : decode cX12_generate 0 = .ok (.iconst 0, 1) := by decide +kernel
theorem dX12_generate_1 : decode cX12_generate 1 = .ok (.istore_n 1, 1) := by decide +kernel
theorem dX12_generate_2 : decode cX12_generate 2 = .ok (.iload_n 1, 1) := by decide +kernel
theorem dX12_generate_3 : decode cX12_generate 3 = .ok (.bipush 9, 2) := by decide +kernel
theorem dX12_generate_5 : decode cX12_generate 5 = .ok (.if_icmp .ge 29, 3) := by decide +kernel
theorem dX12_generate_8 : decode cX12_generate 8 = .ok (.aload_n 0, 1) := by decide +kernel
theorem dX12_generate_9 : decode cX12_generate 9 = .ok (.getfield 26, 3) := by decide +kernel
theorem dX12_generate_12 : decode cX12_generate 12 = .ok (.bipush 9, 2) := by decide +kernel
theorem dX12_generate_14 : decode cX12_generate 14 = .ok (.aload_n 0, 1) := by decide +kernel
theorem dX12_generate_15 : decode cX12_generate 15 = .ok (.getfield 103, 3) := by decide +kernel
theorem dX12_generate_18 : decode cX12_generate 18 = .ok (.imul, 1) := by decide +kernel
theorem dX12_generate_19 : decode cX12_generate 19 = .ok (.iload_n 1, 1) := by decide +kernel
theorem dX12_generate_20 : decode cX12_generate 20 = .ok (.iadd, 1) := by decide +kernel
theorem dX12_generate_21 : decode cX12_generate 21 = .ok (.aload_n 0, 1) := by decide +kernel
theorem dX12_generate_22 : decode cX12_generate 22 = .ok (.getfield 32, 3) := by decide +kernel
theorem dX12_generate_25 : decode cX12_generate 25 = .ok (.iload_n 1, 1) := by decide +kernel
theorem dX12_generate_26 : decode cX12_generate 26 = .ok (.iaload, 1) := by decide +kernel
theorem dX12_generate_27 : decode cX12_generate 27 = .ok (.iastore, 1) := by decide +kernel
theorem dX12_generate_28 : decode cX12_generate 28 = .ok (.iinc 1 1, 3) := by decide +kernel
theorem dX12_generate_31 : decode cX12_generate 31 = .ok (.goto (-29), 3) := by decide +kernel
theorem dX12_generate_34 : decode cX12_generate 34 = .ok (.iconst 0, 1) := by decide +kernel
theorem dX12_generate_35 : decode cX12_generate 35 = .ok (.istore_n 1, 1) := by decide +kernel
theorem dX12_generate_36 : decode cX12_generate 36 = .ok (.iload_n 1, 1) := by decide +kernel
theorem dX12_generate_37 : decode cX12_generate 37 = .ok (.iconst 3, 1) := by decide +kernel
theorem dX12_generate_38 : decode cX12_generate 38 = .ok (.if_icmp .ge 28, 3) := by decide +kernel
theorem dX12_generate_41 : decode cX12_generate 41 = .ok (.aload_n 0, 1) := by decide +kernel
theorem dX12_generate_42 : decode cX12_generate 42 = .ok (.getfield 29, 3) := by decide +kernel
theorem dX12_generate_45 : decode cX12_generate 45 = .ok (.iconst 3, 1) := by decide +kernel
theorem dX12_generate_46 : decode cX12_generate 46 = .ok (.aload_n 0, 1) := by decide +kernel
theorem dX12_generate_47 : decode cX12_generate 47 = .ok (.getfield 103, 3) := by decide +kernel
theorem dX12_generate_50 : decode cX12_generate 50 = .ok (.imul, 1) := by decide +kernel
theorem dX12_generate_51 : decode cX12_generate 51 = .ok (.iload_n 1, 1) := by decide +kernel
theorem dX12_generate_52 : decode cX12_generate 52 = .ok (.iadd, 1) := by decide +kernel
theorem dX12_generate_53 : decode cX12_generate 53 = .ok (.aload_n 0, 1) := by decide +kernel
theorem dX12_generate_54 : decode cX12_generate 54 = .ok (.getfield 35, 3) := by decide +kernel
theorem dX12_generate_57 : decode cX12_generate 57 = .ok (.iload_n 1, 1) := by decide +kernel
theorem dX12_generate_58 : decode cX12_generate 58 = .ok (.iaload, 1) := by decide +kernel
theorem dX12_generate_59 : decode cX12_generate 59 = .ok (.iastore, 1) := by decide +kernel
theorem dX12_generate_60 : decode cX12_generate 60 = .ok (.iinc 1 1, 3) := by decide +kernel
theorem dX12_generate_63 : decode cX12_generate 63 = .ok (.goto (-27), 3) := by decide +kernel
theorem dX12_generate_66 : decode cX12_generate 66 = .ok (.aload_n 0, 1) := by decide +kernel
theorem dX12_generate_67 : decode cX12_generate 67 = .ok (.dup, 1) := by decide +kernel
theorem dX12_generate_68 : decode cX12_generate 68 = .ok (.getfield 103, 3) := by decide +kernel
theorem dX12_generate_71 : decode cX12_generate 71 = .ok (.iconst 1, 1) := by decide +kernel
theorem dX12_generate_72 : decode cX12_generate 72 = .ok (.iadd, 1) := by decide +kernel
theorem dX12_generate_73 : decode cX12_generate 73 = .ok (.putfield 103, 3) := by decide +kernel
theorem dX12_generate_76 : decode cX12_generate 76 = .ok (.return_, 1) := by decide +kernel
theorem dX12_turnTo_0 : decode cX12_turnTo 0 = .ok (.iload_n 1, 1) := by decide +kernel
theorem dX12_turnTo_1 : decode cX12_turnTo 1 = .ok (.iconst 1, 1) := by decide +kernel
theorem dX12_turnTo_2 : decode cX12_turnTo 2 = .ok (.iadd, 1) := by decide +kernel
theorem dX12_turnTo_3 : decode cX12_turnTo 3 = .ok (.iconst 3, 1) := by decide +kernel
theorem dX12_turnTo_4 : decode cX12_turnTo 4 = .ok (.irem, 1) := by decide +kernel
theorem dX12_turnTo_5 : decode cX12_turnTo 5 = .ok (.istore_n 2, 1) := by decide +kernel
theorem dX12_turnTo_6 : decode cX12_turnTo 6 = .ok (.aload_n 0, 1) := by decide +kernel
theorem dX12_turnTo_7 : decode cX12_turnTo 7 = .ok (.getfield 32, 3) := by decide +kernel
theorem dX12_turnTo_10 : decode cX12_turnTo 10 = .ok (.iconst 0, 1) := by decide +kernel
theorem dX12_turnTo_11 : decode cX12_turnTo 11 = .ok (.iaload, 1) := by decide +kernel
theorem dX12_turnTo_12 : decode cX12_turnTo 12 = .ok (.istore_n 3, 1) := by decide +kernel
theorem dX12_turnTo_13 : decode cX12_turnTo 13 = .ok (.iconst 0, 1) := by decide +kernel
theorem dX12_turnTo_14 : decode cX12_turnTo 14 = .ok (.istore 4, 2) := by decide +kernel
theorem dX12_turnTo_16 : decode cX12_turnTo 16 = .ok (.iload 4, 2) := by decide +kernel
theorem dX12_turnTo_18 : decode cX12_turnTo 18 = .ok (.iload_n 2, 1) := by decide +kernel
theorem dX12_turnTo_19 : decode cX12_turnTo 19 = .ok (.if_icmp .ge 104, 3) := by decide +kernel
theorem dX12_turnTo_22 : decode cX12_turnTo 22 = .ok (.aload_n 0, 1) := by decide +kernel
theorem dX12_turnTo_23 : decode cX12_turnTo 23 = .ok (.getfield 32, 3) := by decide +kernel
theorem dX12_turnTo_26 : decode cX12_turnTo 26 = .ok (.bipush 8, 2) := by decide +kernel
theorem dX12_turnTo_28 : decode cX12_turnTo 28 = .ok (.iaload, 1) := by decide +kernel
theorem dX12_turnTo_29 : decode cX12_turnTo 29 = .ok (.istore_n 3, 1) := by decide +kernel
theorem dX12_turnTo_30 : decode cX12_turnTo 30 = .ok (.aload_n 0, 1) := by decide +kernel
theorem dX12_turnTo_31 : decode cX12_turnTo 31 = .ok (.getfield 32, 3) := by decide +kernel
theorem dX12_turnTo_34 : decode cX12_turnTo 34 = .ok (.bipush 6, 2) := by decide +kernel
theorem dX12_turnTo_36 : decode cX12_turnTo 36 = .ok (.iaload, 1) := by decide +kernel
theorem dX12_turnTo_37 : decode cX12_turnTo 37 = .ok (.istore 5, 2) := by decide +kernel
theorem dX12_turnTo_39 : decode cX12_turnTo 39 = .ok (.aload_n 0, 1) := by decide +kernel
theorem dX12_turnTo_40 : decode cX12_turnTo 40 = .ok (.getfield 32, 3) := by decide +kernel
theorem dX12_turnTo_43 : decode cX12_turnTo 43 = .ok (.bipush 7, 2) := by decide +kernel
theorem dX12_turnTo_45 : decode cX12_turnTo 45 = .ok (.iaload, 1) := by decide +kernel
theorem dX12_turnTo_46 : decode cX12_turnTo 46 = .ok (.istore 6, 2) := by decide +kernel
theorem dX12_turnTo_48 : decode cX12_turnTo 48 = .ok (.aload_n 0, 1) := by decide +kernel
theorem dX12_turnTo_49 : decode cX12_turnTo 49 = .ok (.getfield 32, 3) := by decide +kernel
theorem dX12_turnTo_52 : decode cX12_turnTo 52 = .ok (.iconst 2, 1) := by decide +kernel
theorem dX12_turnTo_53 : decode cX12_turnTo 53 = .ok (.iaload, 1) := by decide +kernel
theorem dX12_turnTo_54 : decode cX12_turnTo 54 = .ok (.istore 7, 2) := by decide +kernel
theorem dX12_turnTo_56 : decode cX12_turnTo 56 = .ok (.aload_n 0, 1) := by decide +kernel
theorem dX12_turnTo_57 : decode cX12_turnTo 57 = .ok (.getfield 32, 3) := by decide +kernel
theorem dX12_turnTo_60 : decode cX12_turnTo 60 = .ok (.iconst 0, 1) := by decide +kernel
theorem dX12_turnTo_61 : decode cX12_turnTo 61 = .ok (.iaload, 1) := by decide +kernel
theorem dX12_turnTo_62 : decode cX12_turnTo 62 = .ok (.istore 8, 2) := by decide +kernel
theorem dX12_turnTo_64 : decode cX12_turnTo 64 = .ok (.aload_n 0, 1) := by decide +kernel
theorem dX12_turnTo_65 : decode cX12_turnTo 65 = .ok (.getfield 32, 3) := by decide +kernel
theorem dX12_turnTo_68 : decode cX12_turnTo 68 = .ok (.iconst 1, 1) := by decide +kernel
theorem dX12_turnTo_69 : decode cX12_turnTo 69 = .ok (.iaload, 1) := by decide +kernel
theorem dX12_turnTo_70 : decode cX12_turnTo 70 = .ok (.istore 9, 2) := by decide +kernel
theorem dX12_turnTo_72 : decode cX12_turnTo 72 = .ok (.aload_n 0, 1) := by decide +kernel
theorem dX12_turnTo_73 : decode cX12_turnTo 73 = .ok (.getfield 32, 3) := by decide +kernel
theorem dX12_turnTo_76 : decode cX12_turnTo 76 = .ok (.iconst 5, 1) := by decide +kernel
theorem dX12_turnTo_77 : decode cX12_turnTo 77 = .ok (.iaload, 1) := by decide +kernel
theorem dX12_turnTo_78 : decode cX12_turnTo 78 = .ok (.istore 10, 2) := by decide +kernel
theorem dX12_turnTo_80 : decode cX12_turnTo 80 = .ok (.aload_n 0, 1) := by decide +kernel
theorem dX12_turnTo_81 : decode cX12_turnTo 81 = .ok (.getfield 32, 3) := by decide +kernel
theorem dX12_turnTo_84 : decode cX12_turnTo 84 = .ok (.iconst 3, 1) := by decide +kernel
theorem dX12_turnTo_85 : decode cX12_turnTo 85 = .ok (.iaload, 1) := by decide +kernel
theorem dX12_turnTo_86 : decode cX12_turnTo 86 = .ok (.istore 11, 2) := by decide +kernel
theorem dX12_turnTo_88 : decode cX12_turnTo 88 = .ok (.aload_n 0, 1) := by decide +kernel
theorem dX12_turnTo_89 : decode cX12_turnTo 89 = .ok (.getfield 32, 3) := by decide +kernel
theorem dX12_turnTo_92 : decode cX12_turnTo 92 = .ok (.iconst 4, 1) := by decide +kernel
theorem dX12_turnTo_93 : decode cX12_turnTo 93 = .ok (.iaload, 1) := by decide +kernel
theorem dX12_turnTo_94 : decode cX12_turnTo 94 = .ok (.istore 12, 2) := by decide +kernel
theorem dX12_turnTo_96 : decode cX12_turnTo 96 = .ok (.aload_n 0, 1) := by decide +kernel
theorem dX12_turnTo_97 : decode cX12_turnTo 97 = .ok (.iload_n 3, 1) := by decide +kernel
theorem dX12_turnTo_98 : decode cX12_turnTo 98 = .ok (.iload 5, 2) := by decide +kernel
theorem dX12_turnTo_100 : decode cX12_turnTo 100 = .ok (.iload 6, 2) := by decide +kernel
theorem dX12_turnTo_102 : decode cX12_turnTo 102 = .ok (.iload 7, 2) := by decide +kernel
theorem dX12_turnTo_104 : decode cX12_turnTo 104 = .ok (.iload 8, 2) := by decide +kernel
theorem dX12_turnTo_106 : decode cX12_turnTo 106 = .ok (.iload 9, 2) := by decide +kernel
theorem dX12_turnTo_108 : decode cX12_turnTo 108 = .ok (.iload 10, 2) := by decide +kernel
theorem dX12_turnTo_110 : decode cX12_turnTo 110 = .ok (.iload 11, 2) := by decide +kernel
theorem dX12_turnTo_112 : decode cX12_turnTo 112 = .ok (.iload 12, 2) := by decide +kernel
theorem dX12_turnTo_114 : decode cX12_turnTo 114 = .ok (.invokevirtual 106, 3) := by decide +kernel
theorem dX12_turnTo_117 : decode cX12_turnTo 117 = .ok (.iinc 4 1, 3) := by decide +kernel
theorem dX12_turnTo_120 : decode cX12_turnTo 120 = .ok (.goto (-104), 3) := by decide +kernel
theorem dX12_turnTo_123 : decode cX12_turnTo 123 = .ok (.return_, 1) := by decide +kernel
theorem dX12_isOrder_0 : decode cX12_isOrder 0 = .ok (.iload_n 0, 1) := by decide +kernel
theorem dX12_isOrder_1 : decode cX12_isOrder 1 = .ok (.bipush 49, 2) := by decide +kernel
theorem dX12_isOrder_3 : decode cX12_isOrder 3 = .ok (.if_icmp .lt 9, 3) := by decide +kernel
theorem dX12_isOrder_6 : decode cX12_isOrder 6 = .ok (.iload_n 0, 1) := by decide +kernel
theorem dX12_isOrder_7 : decode cX12_isOrder 7 = .ok (.bipush 52, 2) := by decide +kernel
theorem dX12_isOrder_9 : decode cX12_isOrder 9 = .ok (.if_icmp .le 9, 3) := by decide +kernel
theorem dX12_isOrder_12 : decode cX12_isOrder 12 = .ok (.iload_n 0, 1) := by decide +kernel
theorem dX12_isOrder_13 : decode cX12_isOrder 13 = .ok (.bipush 54, 2) := by decide +kernel
theorem dX12_isOrder_15 : decode cX12_isOrder 15 = .ok (.if_icmp .ne 7, 3) := by decide +kernel
theorem dX12_isOrder_18 : decode cX12_isOrder 18 = .ok (.iconst 1, 1) := by decide +kernel
theorem dX12_isOrder_19 : decode cX12_isOrder 19 = .ok (.goto 4, 3) := by decide +kernel
theorem dX12_isOrder_22 : decode cX12_isOrder 22 = .ok (.iconst 0, 1) := by decide +kernel
theorem dX12_isOrder_23 : decode cX12_isOrder 23 = .ok (.ireturn, 1) := by decide +kernel
theorem dX12_axisAt_0 : decode cX12_axisAt 0 = .ok (.aload_n 0, 1) := by decide +kernel
theorem dX12_axisAt_1 : decode cX12_axisAt 1 = .ok (.invokevirtual 110, 3) := by decide +kernel
theorem dX12_axisAt_4 : decode cX12_axisAt 4 = .ok (.istore_n 2, 1) := by decide +kernel
theorem dX12_axisAt_5 : decode cX12_axisAt 5 = .ok (.iload_n 1, 1) := by decide +kernel
theorem dX12_axisAt_6 : decode cX12_axisAt 6 = .ok (.iconst 1, 1) := by decide +kernel
theorem dX12_axisAt_7 : decode cX12_axisAt 7 = .ok (.if_icmp .le 20, 3) := by decide +kernel
theorem dX12_axisAt_10 : decode cX12_axisAt 10 = .ok (.iload_n 2, 1) := by decide +kernel
theorem dX12_axisAt_11 : decode cX12_axisAt 11 = .ok (.bipush 120, 2) := by decide +kernel
theorem dX12_axisAt_13 : decode cX12_axisAt 13 = .ok (.if_icmp .lt 14, 3) := by decide +kernel
theorem dX12_axisAt_16 : decode cX12_axisAt 16 = .ok (.iload_n 2, 1) := by decide +kernel
theorem dX12_axisAt_17 : decode cX12_axisAt 17 = .ok (.bipush 122, 2) := by decide +kernel
theorem dX12_axisAt_19 : decode cX12_axisAt 19 = .ok (.if_icmp .gt 8, 3) := by decide +kernel
theorem dX12_axisAt_22 : decode cX12_axisAt 22 = .ok (.iload_n 2, 1) := by decide +kernel
theorem dX12_axisAt_23 : decode cX12_axisAt 23 = .ok (.bipush 120, 2) := by decide +kernel
theorem dX12_axisAt_25 : decode cX12_axisAt 25 = .ok (.isub, 1) := by decide +kernel
theorem dX12_axisAt_26 : decode cX12_axisAt 26 = .ok (.ireturn, 1) := by decide +kernel
theorem dX12_axisAt_27 : decode cX12_axisAt 27 = .ok (.iload_n 1, 1) := by decide +kernel
theorem dX12_axisAt_28 : decode cX12_axisAt 28 = .ok (.iconst 2, 1) := by decide +kernel
theorem dX12_axisAt_29 : decode cX12_axisAt 29 = .ok (.if_icmp .ne 13, 3) := by decide +kernel
theorem dX12_axisAt_32 : decode cX12_axisAt 32 = .ok (.iload_n 2, 1) := by decide +kernel
theorem dX12_axisAt_33 : decode cX12_axisAt 33 = .ok (.bipush 39, 2) := by decide +kernel
theorem dX12_axisAt_35 : decode cX12_axisAt 35 = .ok (.if_icmp .ne 7, 3) := by decide +kernel
theorem dX12_axisAt_38 : decode cX12_axisAt 38 = .ok (.iconst 3, 1) := by decide +kernel
theorem dX12_axisAt_39 : decode cX12_axisAt 39 = .ok (.goto 34, 3) := by decide +kernel
theorem dX12_axisAt_42 : decode cX12_axisAt 42 = .ok (.iload_n 1, 1) := by decide +kernel
theorem dX12_axisAt_43 : decode cX12_axisAt 43 = .ok (.iconst 2, 1) := by decide +kernel
theorem dX12_axisAt_44 : decode cX12_axisAt 44 = .ok (.if_icmp .ne 13, 3) := by decide +kernel
theorem dX12_axisAt_47 : decode cX12_axisAt 47 = .ok (.iload_n 2, 1) := by decide +kernel
theorem dX12_axisAt_48 : decode cX12_axisAt 48 = .ok (.bipush 34, 2) := by decide +kernel
theorem dX12_axisAt_50 : decode cX12_axisAt 50 = .ok (.if_icmp .ne 7, 3) := by decide +kernel
theorem dX12_axisAt_53 : decode cX12_axisAt 53 = .ok (.iconst 4, 1) := by decide +kernel
theorem dX12_axisAt_54 : decode cX12_axisAt 54 = .ok (.goto 19, 3) := by decide +kernel
theorem dX12_axisAt_57 : decode cX12_axisAt 57 = .ok (.iload_n 1, 1) := by decide +kernel
theorem dX12_axisAt_58 : decode cX12_axisAt 58 = .ok (.iconst 3, 1) := by decide +kernel
theorem dX12_axisAt_59 : decode cX12_axisAt 59 = .ok (.if_icmp .ne 13, 3) := by decide +kernel
theorem dX12_axisAt_62 : decode cX12_axisAt 62 = .ok (.iload_n 2, 1) := by decide +kernel
theorem dX12_axisAt_63 : decode cX12_axisAt 63 = .ok (.bipush 42, 2) := by decide +kernel
theorem dX12_axisAt_65 : decode cX12_axisAt 65 = .ok (.if_icmp .ne 7, 3) := by decide +kernel
theorem dX12_axisAt_68 : decode cX12_axisAt 68 = .ok (.iconst 5, 1) := by decide +kernel
theorem dX12_axisAt_69 : decode cX12_axisAt 69 = .ok (.goto 4, 3) := by decide +kernel
theorem dX12_axisAt_72 : decode cX12_axisAt 72 = .ok (.iconst (-1), 1) := by decide +kernel
theorem dX12_axisAt_73 : decode cX12_axisAt 73 = .ok (.ireturn, 1) := by decide +kernel
theorem dX12_axisFor_0 : decode cX12_axisFor 0 = .ok (.aload_n 0, 1) := by decide +kernel
theorem dX12_axisFor_1 : decode cX12_axisFor 1 = .ok (.getfield 114, 3) := by decide +kernel
theorem dX12_axisFor_4 : decode cX12_axisFor 4 = .ok (.ifCond .ne 5, 3) := by decide +kernel
theorem dX12_axisFor_7 : decode cX12_axisFor 7 = .ok (.iconst 2, 1) := by decide +kernel
theorem dX12_axisFor_8 : decode cX12_axisFor 8 = .ok (.ireturn, 1) := by decide +kernel
theorem dX12_axisFor_9 : decode cX12_axisFor 9 = .ok (.aload_n 0, 1) := by decide +kernel
theorem dX12_axisFor_10 : decode cX12_axisFor 10 = .ok (.getfield 114, 3) := by decide +kernel
theorem dX12_axisFor_13 : decode cX12_axisFor 13 = .ok (.iconst 1, 1) := by decide +kernel
theorem dX12_axisFor_14 : decode cX12_axisFor 14 = .ok (.if_icmp .ne 51, 3) := by decide +kernel
theorem dX12_axisFor_17 : decode cX12_axisFor 17 = .ok (.iload_n 1, 1) := by decide +kernel
theorem dX12_axisFor_18 : decode cX12_axisFor 18 = .ok (.iconst 2, 1) := by decide +kernel
theorem dX12_axisFor_19 : decode cX12_axisFor 19 = .ok (.if_icmp .ne 46, 3) := by decide +kernel
theorem dX12_axisFor_22 : decode cX12_axisFor 22 = .ok (.aload_n 0, 1) := by decide +kernel
theorem dX12_axisFor_23 : decode cX12_axisFor 23 = .ok (.getfield 117, 3) := by decide +kernel
theorem dX12_axisFor_26 : decode cX12_axisFor 26 = .ok (.iconst 2, 1) := by decide +kernel
theorem dX12_axisFor_27 : decode cX12_axisFor 27 = .ok (.if_icmp .eq 11, 3) := by decide +kernel
theorem dX12_axisFor_30 : decode cX12_axisFor 30 = .ok (.aload_n 0, 1) := by decide +kernel
theorem dX12_axisFor_31 : decode cX12_axisFor 31 = .ok (.getfield 117, 3) := by decide +kernel
theorem dX12_axisFor_34 : decode cX12_axisFor 34 = .ok (.iconst 4, 1) := by decide +kernel
theorem dX12_axisFor_35 : decode cX12_axisFor 35 = .ok (.if_icmp .ne 7, 3) := by decide +kernel
theorem dX12_axisFor_38 : decode cX12_axisFor 38 = .ok (.iconst 0, 1) := by decide +kernel
theorem dX12_axisFor_39 : decode cX12_axisFor 39 = .ok (.goto 25, 3) := by decide +kernel
theorem dX12_axisFor_42 : decode cX12_axisFor 42 = .ok (.aload_n 0, 1) := by decide +kernel
theorem dX12_axisFor_43 : decode cX12_axisFor 43 = .ok (.getfield 117, 3) := by decide +kernel
theorem dX12_axisFor_46 : decode cX12_axisFor 46 = .ok (.iconst 3, 1) := by decide +kernel
theorem dX12_axisFor_47 : decode cX12_axisFor 47 = .ok (.if_icmp .eq 12, 3) := by decide +kernel
theorem dX12_axisFor_50 : decode cX12_axisFor 50 = .ok (.aload_n 0, 1) := by decide +kernel
theorem dX12_axisFor_51 : decode cX12_axisFor 51 = .ok (.getfield 117, 3) := by decide +kernel
theorem dX12_axisFor_54 : decode cX12_axisFor 54 = .ok (.bipush 6, 2) := by decide +kernel
theorem dX12_axisFor_56 : decode cX12_axisFor 56 = .ok (.if_icmp .ne 7, 3) := by decide +kernel
theorem dX12_axisFor_59 : decode cX12_axisFor 59 = .ok (.iconst 3, 1) := by decide +kernel
theorem dX12_axisFor_60 : decode cX12_axisFor 60 = .ok (.goto 4, 3) := by decide +kernel
theorem dX12_axisFor_63 : decode cX12_axisFor 63 = .ok (.iconst (-1), 1) := by decide +kernel
theorem dX12_axisFor_64 : decode cX12_axisFor 64 = .ok (.ireturn, 1) := by decide +kernel
theorem dX12_axisFor_65 : decode cX12_axisFor 65 = .ok (.iload_n 1, 1) := by decide +kernel
theorem dX12_axisFor_66 : decode cX12_axisFor 66 = .ok (.iconst 3, 1) := by decide +kernel
theorem dX12_axisFor_67 : decode cX12_axisFor 67 = .ok (.if_icmp .ne 7, 3) := by decide +kernel
theorem dX12_axisFor_70 : decode cX12_axisFor 70 = .ok (.iconst 5, 1) := by decide +kernel
theorem dX12_axisFor_71 : decode cX12_axisFor 71 = .ok (.goto 4, 3) := by decide +kernel
theorem dX12_axisFor_74 : decode cX12_axisFor 74 = .ok (.iconst (-1), 1) := by decide +kernel
theorem dX12_axisFor_75 : decode cX12_axisFor 75 = .ok (.ireturn, 1) := by decide +kernel
theorem dX12_rotate_0 : decode cX12_rotate 0 = .ok (.iload_n 1, 1) := by decide +kernel
theorem dX12_rotate_1 : decode cX12_rotate 1 = .ok (.iconst 1, 1) := by decide +kernel
theorem dX12_rotate_2 : decode cX12_rotate 2 = .ok (.if_icmp .ne 19, 3) := by decide +kernel
theorem dX12_rotate_5 : decode cX12_rotate 5 = .ok (.aload_n 0, 1) := by decide +kernel
theorem dX12_rotate_6 : decode cX12_rotate 6 = .ok (.iconst 1, 1) := by decide +kernel
theorem dX12_rotate_7 : decode cX12_rotate 7 = .ok (.iconst 0, 1) := by decide +kernel
theorem dX12_rotate_8 : decode cX12_rotate 8 = .ok (.iconst 0, 1) := by decide +kernel
theorem dX12_rotate_9 : decode cX12_rotate 9 = .ok (.iconst 0, 1) := by decide +kernel
theorem dX12_rotate_10 : decode cX12_rotate 10 = .ok (.iconst 1, 1) := by decide +kernel
theorem dX12_rotate_11 : decode cX12_rotate 11 = .ok (.iconst 0, 1) := by decide +kernel
theorem dX12_rotate_12 : decode cX12_rotate 12 = .ok (.iconst 0, 1) := by decide +kernel
theorem dX12_rotate_13 : decode cX12_rotate 13 = .ok (.iconst 0, 1) := by decide +kernel
theorem dX12_rotate_14 : decode cX12_rotate 14 = .ok (.iconst 1, 1) := by decide +kernel
theorem dX12_rotate_15 : decode cX12_rotate 15 = .ok (.invokevirtual 106, 3) := by decide +kernel
theorem dX12_rotate_18 : decode cX12_rotate 18 = .ok (.goto 142, 3) := by decide +kernel
theorem dX12_rotate_21 : decode cX12_rotate 21 = .ok (.iload_n 2, 1) := by decide +kernel
theorem dX12_rotate_22 : decode cX12_rotate 22 = .ok (.iconst 5, 1) := by decide +kernel
theorem dX12_rotate_23 : decode cX12_rotate 23 = .ok (.if_icmp .ne 19, 3) := by decide +kernel
theorem dX12_rotate_26 : decode cX12_rotate 26 = .ok (.aload_n 0, 1) := by decide +kernel
theorem dX12_rotate_27 : decode cX12_rotate 27 = .ok (.iconst 0, 1) := by decide +kernel
theorem dX12_rotate_28 : decode cX12_rotate 28 = .ok (.iconst 0, 1) := by decide +kernel
theorem dX12_rotate_29 : decode cX12_rotate 29 = .ok (.iconst 1, 1) := by decide +kernel
theorem dX12_rotate_30 : decode cX12_rotate 30 = .ok (.iconst 1, 1) := by decide +kernel
theorem dX12_rotate_31 : decode cX12_rotate 31 = .ok (.iconst 0, 1) := by decide +kernel
theorem dX12_rotate_32 : decode cX12_rotate 32 = .ok (.iconst 0, 1) := by decide +kernel
theorem dX12_rotate_33 : decode cX12_rotate 33 = .ok (.iconst 0, 1) := by decide +kernel
theorem dX12_rotate_34 : decode cX12_rotate 34 = .ok (.iconst 1, 1) := by decide +kernel
theorem dX12_rotate_35 : decode cX12_rotate 35 = .ok (.iconst 0, 1) := by decide +kernel
theorem dX12_rotate_36 : decode cX12_rotate 36 = .ok (.invokevirtual 106, 3) := by decide +kernel
theorem dX12_rotate_39 : decode cX12_rotate 39 = .ok (.goto 121, 3) := by decide +kernel
theorem dX12_rotate_42 : decode cX12_rotate 42 = .ok (.iload_n 2, 1) := by decide +kernel
theorem dX12_rotate_43 : decode cX12_rotate 43 = .ok (.iconst 3, 1) := by decide +kernel
theorem dX12_rotate_44 : decode cX12_rotate 44 = .ok (.if_icmp .ne 19, 3) := by decide +kernel
theorem dX12_rotate_47 : decode cX12_rotate 47 = .ok (.aload_n 0, 1) := by decide +kernel
theorem dX12_rotate_48 : decode cX12_rotate 48 = .ok (.iconst 0, 1) := by decide +kernel
theorem dX12_rotate_49 : decode cX12_rotate 49 = .ok (.iconst (-1), 1) := by decide +kernel
theorem dX12_rotate_50 : decode cX12_rotate 50 = .ok (.iconst 0, 1) := by decide +kernel
theorem dX12_rotate_51 : decode cX12_rotate 51 = .ok (.iconst (-1), 1) := by decide +kernel
theorem dX12_rotate_52 : decode cX12_rotate 52 = .ok (.iconst 0, 1) := by decide +kernel
theorem dX12_rotate_53 : decode cX12_rotate 53 = .ok (.iconst 0, 1) := by decide +kernel
theorem dX12_rotate_54 : decode cX12_rotate 54 = .ok (.iconst 0, 1) := by decide +kernel
theorem dX12_rotate_55 : decode cX12_rotate 55 = .ok (.iconst 0, 1) := by decide +kernel
theorem dX12_rotate_56 : decode cX12_rotate 56 = .ok (.iconst (-1), 1) := by decide +kernel
theorem dX12_rotate_57 : decode cX12_rotate 57 = .ok (.invokevirtual 106, 3) := by decide +kernel
theorem dX12_rotate_60 : decode cX12_rotate 60 = .ok (.goto 100, 3) := by decide +kernel
theorem dX12_rotate_63 : decode cX12_rotate 63 = .ok (.iload_n 2, 1) := by decide +kernel
theorem dX12_rotate_64 : decode cX12_rotate 64 = .ok (.iconst 4, 1) := by decide +kernel
theorem dX12_rotate_65 : decode cX12_rotate 65 = .ok (.if_icmp .ne 19, 3) := by decide +kernel
theorem dX12_rotate_68 : decode cX12_rotate 68 = .ok (.aload_n 0, 1) := by decide +kernel
theorem dX12_rotate_69 : decode cX12_rotate 69 = .ok (.iconst 0, 1) := by decide +kernel
theorem dX12_rotate_70 : decode cX12_rotate 70 = .ok (.iconst 1, 1) := by decide +kernel
theorem dX12_rotate_71 : decode cX12_rotate 71 = .ok (.iconst 0, 1) := by decide +kernel
theorem dX12_rotate_72 : decode cX12_rotate 72 = .ok (.iconst 1, 1) := by decide +kernel
theorem dX12_rotate_73 : decode cX12_rotate 73 = .ok (.iconst 0, 1) := by decide +kernel
theorem dX12_rotate_74 : decode cX12_rotate 74 = .ok (.iconst 0, 1) := by decide +kernel
theorem dX12_rotate_75 : decode cX12_rotate 75 = .ok (.iconst 0, 1) := by decide +kernel
theorem dX12_rotate_76 : decode cX12_rotate 76 = .ok (.iconst 0, 1) := by decide +kernel
theorem dX12_rotate_77 : decode cX12_rotate 77 = .ok (.iconst (-1), 1) := by decide +kernel
theorem dX12_rotate_78 : decode cX12_rotate 78 = .ok (.invokevirtual 106, 3) := by decide +kernel
theorem dX12_rotate_81 : decode cX12_rotate 81 = .ok (.goto 79, 3) := by decide +kernel
theorem dX12_rotate_84 : decode cX12_rotate 84 = .ok (.iload_n 1, 1) := by decide +kernel
theorem dX12_rotate_85 : decode cX12_rotate 85 = .ok (.iconst 2, 1) := by decide +kernel
theorem dX12_rotate_86 : decode cX12_rotate 86 = .ok (.if_icmp .ne 19, 3) := by decide +kernel
theorem dX12_rotate_89 : decode cX12_rotate 89 = .ok (.aload_n 0, 1) := by decide +kernel
theorem dX12_rotate_90 : decode cX12_rotate 90 = .ok (.iconst (-1), 1) := by decide +kernel
theorem dX12_rotate_91 : decode cX12_rotate 91 = .ok (.iconst 0, 1) := by decide +kernel
theorem dX12_rotate_92 : decode cX12_rotate 92 = .ok (.iconst 0, 1) := by decide +kernel
theorem dX12_rotate_93 : decode cX12_rotate 93 = .ok (.iconst 0, 1) := by decide +kernel
theorem dX12_rotate_94 : decode cX12_rotate 94 = .ok (.iconst (-1), 1) := by decide +kernel
theorem dX12_rotate_95 : decode cX12_rotate 95 = .ok (.iconst 0, 1) := by decide +kernel
theorem dX12_rotate_96 : decode cX12_rotate 96 = .ok (.iconst 0, 1) := by decide +kernel
theorem dX12_rotate_97 : decode cX12_rotate 97 = .ok (.iconst 0, 1) := by decide +kernel
theorem dX12_rotate_98 : decode cX12_rotate 98 = .ok (.iconst 1, 1) := by decide +kernel
theorem dX12_rotate_99 : decode cX12_rotate 99 = .ok (.invokevirtual 106, 3) := by decide +kernel
theorem dX12_rotate_102 : decode cX12_rotate 102 = .ok (.goto 58, 3) := by decide +kernel
theorem dX12_rotate_105 : decode cX12_rotate 105 = .ok (.iload_n 1, 1) := by decide +kernel
theorem dX12_rotate_106 : decode cX12_rotate 106 = .ok (.iconst 3, 1) := by decide +kernel
theorem dX12_rotate_107 : decode cX12_rotate 107 = .ok (.if_icmp .ne 19, 3) := by decide +kernel
theorem dX12_rotate_110 : decode cX12_rotate 110 = .ok (.aload_n 0, 1) := by decide +kernel
theorem dX12_rotate_111 : decode cX12_rotate 111 = .ok (.iconst 0, 1) := by decide +kernel
theorem dX12_rotate_112 : decode cX12_rotate 112 = .ok (.iconst (-1), 1) := by decide +kernel
theorem dX12_rotate_113 : decode cX12_rotate 113 = .ok (.iconst 0, 1) := by decide +kernel
theorem dX12_rotate_114 : decode cX12_rotate 114 = .ok (.iconst 1, 1) := by decide +kernel
theorem dX12_rotate_115 : decode cX12_rotate 115 = .ok (.iconst (-1), 1) := by decide +kernel
theorem dX12_rotate_116 : decode cX12_rotate 116 = .ok (.iconst 0, 1) := by decide +kernel
theorem dX12_rotate_117 : decode cX12_rotate 117 = .ok (.iconst 0, 1) := by decide +kernel
theorem dX12_rotate_118 : decode cX12_rotate 118 = .ok (.iconst 0, 1) := by decide +kernel
theorem dX12_rotate_119 : decode cX12_rotate 119 = .ok (.iconst 1, 1) := by decide +kernel
theorem dX12_rotate_120 : decode cX12_rotate 120 = .ok (.invokevirtual 106, 3) := by decide +kernel
theorem dX12_rotate_123 : decode cX12_rotate 123 = .ok (.goto 37, 3) := by decide +kernel
theorem dX12_rotate_126 : decode cX12_rotate 126 = .ok (.iload_n 1, 1) := by decide +kernel
theorem dX12_rotate_127 : decode cX12_rotate 127 = .ok (.iconst 4, 1) := by decide +kernel
theorem dX12_rotate_128 : decode cX12_rotate 128 = .ok (.if_icmp .ne 19, 3) := by decide +kernel
theorem dX12_rotate_131 : decode cX12_rotate 131 = .ok (.aload_n 0, 1) := by decide +kernel
theorem dX12_rotate_132 : decode cX12_rotate 132 = .ok (.iconst 0, 1) := by decide +kernel
theorem dX12_rotate_133 : decode cX12_rotate 133 = .ok (.iconst (-1), 1) := by decide +kernel
theorem dX12_rotate_134 : decode cX12_rotate 134 = .ok (.iconst 0, 1) := by decide +kernel
theorem dX12_rotate_135 : decode cX12_rotate 135 = .ok (.iconst 1, 1) := by decide +kernel
theorem dX12_rotate_136 : decode cX12_rotate 136 = .ok (.iconst 0, 1) := by decide +kernel
theorem dX12_rotate_137 : decode cX12_rotate 137 = .ok (.iconst 0, 1) := by decide +kernel
theorem dX12_rotate_138 : decode cX12_rotate 138 = .ok (.iconst 0, 1) := by decide +kernel
theorem dX12_rotate_139 : decode cX12_rotate 139 = .ok (.iconst 0, 1) := by decide +kernel
theorem dX12_rotate_140 : decode cX12_rotate 140 = .ok (.iconst 1, 1) := by decide +kernel
theorem dX12_rotate_141 : decode cX12_rotate 141 = .ok (.invokevirtual 106, 3) := by decide +kernel
theorem dX12_rotate_144 : decode cX12_rotate 144 = .ok (.goto 16, 3) := by decide +kernel
theorem dX12_rotate_147 : decode cX12_rotate 147 = .ok (.aload_n 0, 1) := by decide +kernel
theorem dX12_rotate_148 : decode cX12_rotate 148 = .ok (.iconst 1, 1) := by decide +kernel
theorem dX12_rotate_149 : decode cX12_rotate 149 = .ok (.iconst (-1), 1) := by decide +kernel
theorem dX12_rotate_150 : decode cX12_rotate 150 = .ok (.iconst 0, 1) := by decide +kernel
theorem dX12_rotate_151 : decode cX12_rotate 151 = .ok (.iconst 1, 1) := by decide +kernel
theorem dX12_rotate_152 : decode cX12_rotate 152 = .ok (.iconst 0, 1) := by decide +kernel
theorem dX12_rotate_153 : decode cX12_rotate 153 = .ok (.iconst 0, 1) := by decide +kernel
theorem dX12_rotate_154 : decode cX12_rotate 154 = .ok (.iconst 0, 1) := by decide +kernel
theorem dX12_rotate_155 : decode cX12_rotate 155 = .ok (.iconst 0, 1) := by decide +kernel
theorem dX12_rotate_156 : decode cX12_rotate 156 = .ok (.iconst 1, 1) := by decide +kernel
theorem dX12_rotate_157 : decode cX12_rotate 157 = .ok (.invokevirtual 106, 3) := by decide +kernel
theorem dX12_rotate_160 : decode cX12_rotate 160 = .ok (.iload_n 1, 1) := by decide +kernel
theorem dX12_rotate_161 : decode cX12_rotate 161 = .ok (.iconst 1, 1) := by decide +kernel
theorem dX12_rotate_162 : decode cX12_rotate 162 = .ok (.if_icmp .le 16, 3) := by decide +kernel
theorem dX12_rotate_165 : decode cX12_rotate 165 = .ok (.iload_n 2, 1) := by decide +kernel
theorem dX12_rotate_166 : decode cX12_rotate 166 = .ok (.iconst 3, 1) := by decide +kernel
theorem dX12_rotate_167 : decode cX12_rotate 167 = .ok (.if_icmp .ge 11, 3) := by decide +kernel
theorem dX12_rotate_170 : decode cX12_rotate 170 = .ok (.aload_n 0, 1) := by decide +kernel
theorem dX12_rotate_171 : decode cX12_rotate 171 = .ok (.iload_n 2, 1) := by decide +kernel
theorem dX12_rotate_172 : decode cX12_rotate 172 = .ok (.invokevirtual 120, 3) := by decide +kernel
theorem dX12_rotate_175 : decode cX12_rotate 175 = .ok (.goto 21, 3) := by decide +kernel
theorem dX12_rotate_178 : decode cX12_rotate 178 = .ok (.iload_n 2, 1) := by decide +kernel
theorem dX12_rotate_179 : decode cX12_rotate 179 = .ok (.iconst 3, 1) := by decide +kernel
theorem dX12_rotate_180 : decode cX12_rotate 180 = .ok (.if_icmp .eq 8, 3) := by decide +kernel
theorem dX12_rotate_183 : decode cX12_rotate 183 = .ok (.iload_n 2, 1) := by decide +kernel
theorem dX12_rotate_184 : decode cX12_rotate 184 = .ok (.iconst 4, 1) := by decide +kernel
theorem dX12_rotate_185 : decode cX12_rotate 185 = .ok (.if_icmp .ne 11, 3) := by decide +kernel
theorem dX12_rotate_188 : decode cX12_rotate 188 = .ok (.aload_n 0, 1) := by decide +kernel
theorem dX12_rotate_189 : decode cX12_rotate 189 = .ok (.aload_n 0, 1) := by decide +kernel
theorem dX12_rotate_190 : decode cX12_rotate 190 = .ok (.getfield 124, 3) := by decide +kernel
theorem dX12_rotate_193 : decode cX12_rotate 193 = .ok (.invokevirtual 120, 3) := by decide +kernel
theorem dX12_rotate_196 : decode cX12_rotate 196 = .ok (.return_, 1) := by decide +kernel
theorem dX12_addShift_0 : decode cX12_addShift 0 = .ok (.aload_n 0, 1) := by decide +kernel
theorem dX12_addShift_1 : decode cX12_addShift 1 = .ok (.aload_n 0, 1) := by decide +kernel
theorem dX12_addShift_2 : decode cX12_addShift 2 = .ok (.getfield 35, 3) := by decide +kernel
theorem dX12_addShift_5 : decode cX12_addShift 5 = .ok (.iconst 0, 1) := by decide +kernel
theorem dX12_addShift_6 : decode cX12_addShift 6 = .ok (.iaload, 1) := by decide +kernel
theorem dX12_addShift_7 : decode cX12_addShift 7 = .ok (.iload_n 1, 1) := by decide +kernel
theorem dX12_addShift_8 : decode cX12_addShift 8 = .ok (.iadd, 1) := by decide +kernel
theorem dX12_addShift_9 : decode cX12_addShift 9 = .ok (.bipush 12, 2) := by decide +kernel
theorem dX12_addShift_11 : decode cX12_addShift 11 = .ok (.irem, 1) := by decide +kernel
theorem dX12_addShift_12 : decode cX12_addShift 12 = .ok (.aload_n 0, 1) := by decide +kernel
theorem dX12_addShift_13 : decode cX12_addShift 13 = .ok (.getfield 35, 3) := by decide +kernel
theorem dX12_addShift_16 : decode cX12_addShift 16 = .ok (.iconst 1, 1) := by decide +kernel
theorem dX12_addShift_17 : decode cX12_addShift 17 = .ok (.iaload, 1) := by decide +kernel
theorem dX12_addShift_18 : decode cX12_addShift 18 = .ok (.iload_n 2, 1) := by decide +kernel
theorem dX12_addShift_19 : decode cX12_addShift 19 = .ok (.iadd, 1) := by decide +kernel
theorem dX12_addShift_20 : decode cX12_addShift 20 = .ok (.bipush 12, 2) := by decide +kernel
theorem dX12_addShift_22 : decode cX12_addShift 22 = .ok (.irem, 1) := by decide +kernel
theorem dX12_addShift_23 : decode cX12_addShift 23 = .ok (.aload_n 0, 1) := by decide +kernel
theorem dX12_addShift_24 : decode cX12_addShift 24 = .ok (.getfield 35, 3) := by decide +kernel
theorem dX12_addShift_27 : decode cX12_addShift 27 = .ok (.iconst 2, 1) := by decide +kernel
theorem dX12_addShift_28 : decode cX12_addShift 28 = .ok (.iaload, 1) := by decide +kernel
theorem dX12_addShift_29 : decode cX12_addShift 29 = .ok (.iload_n 3, 1) := by decide +kernel
theorem dX12_addShift_30 : decode cX12_addShift 30 = .ok (.iadd, 1) := by decide +kernel
theorem dX12_addShift_31 : decode cX12_addShift 31 = .ok (.bipush 12, 2) := by decide +kernel
theorem dX12_addShift_33 : decode cX12_addShift 33 = .ok (.irem, 1) := by decide +kernel
theorem dX12_addShift_34 : decode cX12_addShift 34 = .ok (.invokevirtual 127, 3) := by decide +kernel
theorem dX12_addShift_37 : decode cX12_addShift 37 = .ok (.return_, 1) := by decide +kernel
theorem dX12_takesShift_0 : decode cX12_takesShift 0 = .ok (.aload_n 0, 1) := by decide +kernel
theorem dX12_takesShift_1 : decode cX12_takesShift 1 = .ok (.invokevirtual 110, 3) := by decide +kernel
theorem dX12_takesShift_4 : decode cX12_takesShift 4 = .ok (.tableswitch 186 97 119 #[108, 118, 128, 177, 186, 186, 186, 186, 186, 186, 186, 186, 186, 138, 186, 186, 186, 186, 186, 186, 150, 159, 168], 108) := by decide +kernel
theorem dX12_takesShift_112 : decode cX12_takesShift 112 = .ok (.aload_n 0, 1) := by decide +kernel
theorem dX12_takesShift_113 : decode cX12_takesShift 113 = .ok (.bipush 6, 2) := by decide +kernel
theorem dX12_takesShift_115 : decode cX12_takesShift 115 = .ok (.iconst 0, 1) := by decide +kernel
theorem dX12_takesShift_116 : decode cX12_takesShift 116 = .ok (.iconst 0, 1) := by decide +kernel
theorem dX12_takesShift_117 : decode cX12_takesShift 117 = .ok (.invokevirtual 131, 3) := by decide +kernel
theorem dX12_takesShift_120 : decode cX12_takesShift 120 = .ok (.iconst 1, 1) := by decide +kernel
theorem dX12_takesShift_121 : decode cX12_takesShift 121 = .ok (.ireturn, 1) := by decide +kernel
theorem dX12_takesShift_122 : decode cX12_takesShift 122 = .ok (.aload_n 0, 1) := by decide +kernel
theorem dX12_takesShift_123 : decode cX12_takesShift 123 = .ok (.iconst 0, 1) := by decide +kernel
theorem dX12_takesShift_124 : decode cX12_takesShift 124 = .ok (.bipush 6, 2) := by decide +kernel
theorem dX12_takesShift_126 : decode cX12_takesShift 126 = .ok (.iconst 0, 1) := by decide +kernel
theorem dX12_takesShift_127 : decode cX12_takesShift 127 = .ok (.invokevirtual 131, 3) := by decide +kernel
theorem dX12_takesShift_130 : decode cX12_takesShift 130 = .ok (.iconst 1, 1) := by decide +kernel
theorem dX12_takesShift_131 : decode cX12_takesShift 131 = .ok (.ireturn, 1) := by decide +kernel
theorem dX12_takesShift_132 : decode cX12_takesShift 132 = .ok (.aload_n 0, 1) := by decide +kernel
theorem dX12_takesShift_133 : decode cX12_takesShift 133 = .ok (.iconst 0, 1) := by decide +kernel
theorem dX12_takesShift_134 : decode cX12_takesShift 134 = .ok (.iconst 0, 1) := by decide +kernel
theorem dX12_takesShift_135 : decode cX12_takesShift 135 = .ok (.bipush 6, 2) := by decide +kernel
theorem dX12_takesShift_137 : decode cX12_takesShift 137 = .ok (.invokevirtual 131, 3) := by decide +kernel
theorem dX12_takesShift_140 : decode cX12_takesShift 140 = .ok (.iconst 1, 1) := by decide +kernel
theorem dX12_takesShift_141 : decode cX12_takesShift 141 = .ok (.ireturn, 1) := by decide +kernel
theorem dX12_takesShift_142 : decode cX12_takesShift 142 = .ok (.aload_n 0, 1) := by decide +kernel
theorem dX12_takesShift_143 : decode cX12_takesShift 143 = .ok (.bipush 6, 2) := by decide +kernel
theorem dX12_takesShift_145 : decode cX12_takesShift 145 = .ok (.bipush 6, 2) := by decide +kernel
theorem dX12_takesShift_147 : decode cX12_takesShift 147 = .ok (.bipush 6, 2) := by decide +kernel
theorem dX12_takesShift_149 : decode cX12_takesShift 149 = .ok (.invokevirtual 131, 3) := by decide +kernel
theorem dX12_takesShift_152 : decode cX12_takesShift 152 = .ok (.iconst 1, 1) := by decide +kernel
theorem dX12_takesShift_153 : decode cX12_takesShift 153 = .ok (.ireturn, 1) := by decide +kernel
theorem dX12_takesShift_154 : decode cX12_takesShift 154 = .ok (.aload_n 0, 1) := by decide +kernel
theorem dX12_takesShift_155 : decode cX12_takesShift 155 = .ok (.iconst 3, 1) := by decide +kernel
theorem dX12_takesShift_156 : decode cX12_takesShift 156 = .ok (.iconst 0, 1) := by decide +kernel
theorem dX12_takesShift_157 : decode cX12_takesShift 157 = .ok (.iconst 0, 1) := by decide +kernel
theorem dX12_takesShift_158 : decode cX12_takesShift 158 = .ok (.invokevirtual 131, 3) := by decide +kernel
theorem dX12_takesShift_161 : decode cX12_takesShift 161 = .ok (.iconst 1, 1) := by decide +kernel
theorem dX12_takesShift_162 : decode cX12_takesShift 162 = .ok (.ireturn, 1) := by decide +kernel
theorem dX12_takesShift_163 : decode cX12_takesShift 163 = .ok (.aload_n 0, 1) := by decide +kernel
theorem dX12_takesShift_164 : decode cX12_takesShift 164 = .ok (.iconst 0, 1) := by decide +kernel
theorem dX12_takesShift_165 : decode cX12_takesShift 165 = .ok (.iconst 3, 1) := by decide +kernel
theorem dX12_takesShift_166 : decode cX12_takesShift 166 = .ok (.iconst 0, 1) := by decide +kernel
theorem dX12_takesShift_167 : decode cX12_takesShift 167 = .ok (.invokevirtual 131, 3) := by decide +kernel
theorem dX12_takesShift_170 : decode cX12_takesShift 170 = .ok (.iconst 1, 1) := by decide +kernel
theorem dX12_takesShift_171 : decode cX12_takesShift 171 = .ok (.ireturn, 1) := by decide +kernel
theorem dX12_takesShift_172 : decode cX12_takesShift 172 = .ok (.aload_n 0, 1) := by decide +kernel
theorem dX12_takesShift_173 : decode cX12_takesShift 173 = .ok (.iconst 0, 1) := by decide +kernel
theorem dX12_takesShift_174 : decode cX12_takesShift 174 = .ok (.iconst 0, 1) := by decide +kernel
theorem dX12_takesShift_175 : decode cX12_takesShift 175 = .ok (.iconst 3, 1) := by decide +kernel
theorem dX12_takesShift_176 : decode cX12_takesShift 176 = .ok (.invokevirtual 131, 3) := by decide +kernel
theorem dX12_takesShift_179 : decode cX12_takesShift 179 = .ok (.iconst 1, 1) := by decide +kernel
theorem dX12_takesShift_180 : decode cX12_takesShift 180 = .ok (.ireturn, 1) := by decide +kernel
theorem dX12_takesShift_181 : decode cX12_takesShift 181 = .ok (.aload_n 0, 1) := by decide +kernel
theorem dX12_takesShift_182 : decode cX12_takesShift 182 = .ok (.iconst 3, 1) := by decide +kernel
theorem dX12_takesShift_183 : decode cX12_takesShift 183 = .ok (.iconst 3, 1) := by decide +kernel
theorem dX12_takesShift_184 : decode cX12_takesShift 184 = .ok (.iconst 3, 1) := by decide +kernel
theorem dX12_takesShift_185 : decode cX12_takesShift 185 = .ok (.invokevirtual 131, 3) := by decide +kernel
theorem dX12_takesShift_188 : decode cX12_takesShift 188 = .ok (.iconst 1, 1) := by decide +kernel
theorem dX12_takesShift_189 : decode cX12_takesShift 189 = .ok (.ireturn, 1) := by decide +kernel
theorem dX12_takesShift_190 : decode cX12_takesShift 190 = .ok (.iconst 0, 1) := by decide +kernel
theorem dX12_takesShift_191 : decode cX12_takesShift 191 = .ok (.ireturn, 1) := by decide +kernel
theorem dX12_matrix_0 : decode cX12_matrix 0 = .ok (.aload_n 0, 1) := by decide +kernel
theorem dX12_matrix_1 : decode cX12_matrix 1 = .ok (.invokevirtual 110, 3) := by decide +kernel
theorem dX12_matrix_4 : decode cX12_matrix 4 = .ok (.bipush 45, 2) := by decide +kernel
theorem dX12_matrix_6 : decode cX12_matrix 6 = .ok (.if_icmp .ne 7, 3) := by decide +kernel
theorem dX12_matrix_9 : decode cX12_matrix 9 = .ok (.iconst 1, 1) := by decide +kernel
theorem dX12_matrix_10 : decode cX12_matrix 10 = .ok (.goto 4, 3) := by decide +kernel
theorem dX12_matrix_13 : decode cX12_matrix 13 = .ok (.iconst 0, 1) := by decide +kernel
theorem dX12_matrix_14 : decode cX12_matrix 14 = .ok (.istore_n 1, 1) := by decide +kernel
theorem dX12_matrix_15 : decode cX12_matrix 15 = .ok (.aload_n 0, 1) := by decide +kernel
theorem dX12_matrix_16 : decode cX12_matrix 16 = .ok (.iload_n 1, 1) := by decide +kernel
theorem dX12_matrix_17 : decode cX12_matrix 17 = .ok (.ifCond .eq 12, 3) := by decide +kernel
theorem dX12_matrix_20 : decode cX12_matrix 20 = .ok (.aload_n 0, 1) := by decide +kernel
theorem dX12_matrix_21 : decode cX12_matrix 21 = .ok (.getfield 100, 3) := by decide +kernel
theorem dX12_matrix_24 : decode cX12_matrix 24 = .ok (.iconst 1, 1) := by decide +kernel
theorem dX12_matrix_25 : decode cX12_matrix 25 = .ok (.iadd, 1) := by decide +kernel
theorem dX12_matrix_26 : decode cX12_matrix 26 = .ok (.goto 7, 3) := by decide +kernel
theorem dX12_matrix_29 : decode cX12_matrix 29 = .ok (.aload_n 0, 1) := by decide +kernel
theorem dX12_matrix_30 : decode cX12_matrix 30 = .ok (.getfield 100, 3) := by decide +kernel
theorem dX12_matrix_33 : decode cX12_matrix 33 = .ok (.putfield 100, 3) := by decide +kernel
theorem dX12_matrix_36 : decode cX12_matrix 36 = .ok (.aload_n 0, 1) := by decide +kernel
theorem dX12_matrix_37 : decode cX12_matrix 37 = .ok (.invokevirtual 110, 3) := by decide +kernel
theorem dX12_matrix_40 : decode cX12_matrix 40 = .ok (.invokestatic 134, 3) := by decide +kernel
theorem dX12_matrix_43 : decode cX12_matrix 43 = .ok (.ifCond .ne 5, 3) := by decide +kernel
theorem dX12_matrix_46 : decode cX12_matrix 46 = .ok (.iconst 0, 1) := by decide +kernel
theorem dX12_matrix_47 : decode cX12_matrix 47 = .ok (.ireturn, 1) := by decide +kernel
theorem dX12_matrix_48 : decode cX12_matrix 48 = .ok (.aload_n 0, 1) := by decide +kernel
theorem dX12_matrix_49 : decode cX12_matrix 49 = .ok (.invokevirtual 110, 3) := by decide +kernel
theorem dX12_matrix_52 : decode cX12_matrix 52 = .ok (.bipush 48, 2) := by decide +kernel
theorem dX12_matrix_54 : decode cX12_matrix 54 = .ok (.isub, 1) := by decide +kernel
theorem dX12_matrix_55 : decode cX12_matrix 55 = .ok (.istore_n 2, 1) := by decide +kernel
theorem dX12_matrix_56 : decode cX12_matrix 56 = .ok (.aload_n 0, 1) := by decide +kernel
theorem dX12_matrix_57 : decode cX12_matrix 57 = .ok (.dup, 1) := by decide +kernel
theorem dX12_matrix_58 : decode cX12_matrix 58 = .ok (.getfield 100, 3) := by decide +kernel
theorem dX12_matrix_61 : decode cX12_matrix 61 = .ok (.iconst 1, 1) := by decide +kernel
theorem dX12_matrix_62 : decode cX12_matrix 62 = .ok (.iadd, 1) := by decide +kernel
theorem dX12_matrix_63 : decode cX12_matrix 63 = .ok (.putfield 100, 3) := by decide +kernel
theorem dX12_matrix_66 : decode cX12_matrix 66 = .ok (.aload_n 0, 1) := by decide +kernel
theorem dX12_matrix_67 : decode cX12_matrix 67 = .ok (.iload_n 2, 1) := by decide +kernel
theorem dX12_matrix_68 : decode cX12_matrix 68 = .ok (.invokevirtual 138, 3) := by decide +kernel
theorem dX12_matrix_71 : decode cX12_matrix 71 = .ok (.istore_n 3, 1) := by decide +kernel
theorem dX12_matrix_72 : decode cX12_matrix 72 = .ok (.iload_n 3, 1) := by decide +kernel
theorem dX12_matrix_73 : decode cX12_matrix 73 = .ok (.iconst (-1), 1) := by decide +kernel
theorem dX12_matrix_74 : decode cX12_matrix 74 = .ok (.if_icmp .eq 16, 3) := by decide +kernel
theorem dX12_matrix_77 : decode cX12_matrix 77 = .ok (.aload_n 0, 1) := by decide +kernel
theorem dX12_matrix_78 : decode cX12_matrix 78 = .ok (.dup, 1) := by decide +kernel
theorem dX12_matrix_79 : decode cX12_matrix 79 = .ok (.getfield 100, 3) := by decide +kernel
theorem dX12_matrix_82 : decode cX12_matrix 82 = .ok (.iconst 1, 1) := by decide +kernel
theorem dX12_matrix_83 : decode cX12_matrix 83 = .ok (.iadd, 1) := by decide +kernel
theorem dX12_matrix_84 : decode cX12_matrix 84 = .ok (.putfield 100, 3) := by decide +kernel
theorem dX12_matrix_87 : decode cX12_matrix 87 = .ok (.goto 21, 3) := by decide +kernel
theorem dX12_matrix_90 : decode cX12_matrix 90 = .ok (.iload_n 2, 1) := by decide +kernel
theorem dX12_matrix_91 : decode cX12_matrix 91 = .ok (.iconst 1, 1) := by decide +kernel
theorem dX12_matrix_92 : decode cX12_matrix 92 = .ok (.if_icmp .le 16, 3) := by decide +kernel
theorem dX12_matrix_95 : decode cX12_matrix 95 = .ok (.aload_n 0, 1) := by decide +kernel
theorem dX12_matrix_96 : decode cX12_matrix 96 = .ok (.iload_n 2, 1) := by decide +kernel
theorem dX12_matrix_97 : decode cX12_matrix 97 = .ok (.invokevirtual 142, 3) := by decide +kernel
theorem dX12_matrix_100 : decode cX12_matrix 100 = .ok (.istore_n 3, 1) := by decide +kernel
theorem dX12_matrix_101 : decode cX12_matrix 101 = .ok (.iload_n 3, 1) := by decide +kernel
theorem dX12_matrix_102 : decode cX12_matrix 102 = .ok (.iconst (-1), 1) := by decide +kernel
theorem dX12_matrix_103 : decode cX12_matrix 103 = .ok (.if_icmp .ne 5, 3) := by decide +kernel
theorem dX12_matrix_106 : decode cX12_matrix 106 = .ok (.iconst 0, 1) := by decide +kernel
theorem dX12_matrix_107 : decode cX12_matrix 107 = .ok (.ireturn, 1) := by decide +kernel
theorem dX12_matrix_108 : decode cX12_matrix 108 = .ok (.aload_n 0, 1) := by decide +kernel
theorem dX12_matrix_109 : decode cX12_matrix 109 = .ok (.iload_n 2, 1) := by decide +kernel
theorem dX12_matrix_110 : decode cX12_matrix 110 = .ok (.iload_n 3, 1) := by decide +kernel
theorem dX12_matrix_111 : decode cX12_matrix 111 = .ok (.invokevirtual 145, 3) := by decide +kernel
theorem dX12_matrix_114 : decode cX12_matrix 114 = .ok (.iload_n 1, 1) := by decide +kernel
theorem dX12_matrix_115 : decode cX12_matrix 115 = .ok (.ifCond .eq 34, 3) := by decide +kernel
theorem dX12_matrix_118 : decode cX12_matrix 118 = .ok (.iconst 0, 1) := by decide +kernel
theorem dX12_matrix_119 : decode cX12_matrix 119 = .ok (.istore 4, 2) := by decide +kernel
theorem dX12_matrix_121 : decode cX12_matrix 121 = .ok (.iload 4, 2) := by decide +kernel
theorem dX12_matrix_123 : decode cX12_matrix 123 = .ok (.bipush 9, 2) := by decide +kernel
theorem dX12_matrix_125 : decode cX12_matrix 125 = .ok (.if_icmp .ge 24, 3) := by decide +kernel
theorem dX12_matrix_128 : decode cX12_matrix 128 = .ok (.aload_n 0, 1) := by decide +kernel
theorem dX12_matrix_129 : decode cX12_matrix 129 = .ok (.getfield 32, 3) := by decide +kernel
theorem dX12_matrix_132 : decode cX12_matrix 132 = .ok (.iload 4, 2) := by decide +kernel
theorem dX12_matrix_134 : decode cX12_matrix 134 = .ok (.aload_n 0, 1) := by decide +kernel
theorem dX12_matrix_135 : decode cX12_matrix 135 = .ok (.getfield 32, 3) := by decide +kernel
theorem dX12_matrix_138 : decode cX12_matrix 138 = .ok (.iload 4, 2) := by decide +kernel
theorem dX12_matrix_140 : decode cX12_matrix 140 = .ok (.iaload, 1) := by decide +kernel
theorem dX12_matrix_141 : decode cX12_matrix 141 = .ok (.ineg, 1) := by decide +kernel
theorem dX12_matrix_142 : decode cX12_matrix 142 = .ok (.iastore, 1) := by decide +kernel
theorem dX12_matrix_143 : decode cX12_matrix 143 = .ok (.iinc 4 1, 3) := by decide +kernel
theorem dX12_matrix_146 : decode cX12_matrix 146 = .ok (.goto (-25), 3) := by decide +kernel
theorem dX12_matrix_149 : decode cX12_matrix 149 = .ok (.aload_n 0, 1) := by decide +kernel
theorem dX12_matrix_150 : decode cX12_matrix 150 = .ok (.iconst 0, 1) := by decide +kernel
theorem dX12_matrix_151 : decode cX12_matrix 151 = .ok (.iconst 0, 1) := by decide +kernel
theorem dX12_matrix_152 : decode cX12_matrix 152 = .ok (.iconst 0, 1) := by decide +kernel
theorem dX12_matrix_153 : decode cX12_matrix 153 = .ok (.invokevirtual 127, 3) := by decide +kernel
theorem dX12_matrix_156 : decode cX12_matrix 156 = .ok (.iload_n 2, 1) := by decide +kernel
theorem dX12_matrix_157 : decode cX12_matrix 157 = .ok (.iconst 2, 1) := by decide +kernel
theorem dX12_matrix_158 : decode cX12_matrix 158 = .ok (.if_icmp .le 12, 3) := by decide +kernel
theorem dX12_matrix_161 : decode cX12_matrix 161 = .ok (.iload_n 3, 1) := by decide +kernel
theorem dX12_matrix_162 : decode cX12_matrix 162 = .ok (.iconst 3, 1) := by decide +kernel
theorem dX12_matrix_163 : decode cX12_matrix 163 = .ok (.if_icmp .ge 7, 3) := by decide +kernel
theorem dX12_matrix_166 : decode cX12_matrix 166 = .ok (.iconst 1, 1) := by decide +kernel
theorem dX12_matrix_167 : decode cX12_matrix 167 = .ok (.goto 4, 3) := by decide +kernel
theorem dX12_matrix_170 : decode cX12_matrix 170 = .ok (.iconst 0, 1) := by decide +kernel
theorem dX12_matrix_171 : decode cX12_matrix 171 = .ok (.istore 4, 2) := by decide +kernel
theorem dX12_matrix_173 : decode cX12_matrix 173 = .ok (.iconst 0, 1) := by decide +kernel
theorem dX12_matrix_174 : decode cX12_matrix 174 = .ok (.istore 5, 2) := by decide +kernel
theorem dX12_matrix_176 : decode cX12_matrix 176 = .ok (.iconst 1, 1) := by decide +kernel
theorem dX12_matrix_177 : decode cX12_matrix 177 = .ok (.istore 6, 2) := by decide +kernel
theorem dX12_matrix_179 : decode cX12_matrix 179 = .ok (.iload 6, 2) := by decide +kernel
theorem dX12_matrix_181 : decode cX12_matrix 181 = .ok (.ifCond .eq 124, 3) := by decide +kernel
theorem dX12_matrix_184 : decode cX12_matrix 184 = .ok (.iload 5, 2) := by decide +kernel
theorem dX12_matrix_186 : decode cX12_matrix 186 = .ok (.iconst 4, 1) := by decide +kernel
theorem dX12_matrix_187 : decode cX12_matrix 187 = .ok (.if_icmp .ge 118, 3) := by decide +kernel
theorem dX12_matrix_190 : decode cX12_matrix 190 = .ok (.aload_n 0, 1) := by decide +kernel
theorem dX12_matrix_191 : decode cX12_matrix 191 = .ok (.invokevirtual 110, 3) := by decide +kernel
theorem dX12_matrix_194 : decode cX12_matrix 194 = .ok (.istore 7, 2) := by decide +kernel
theorem dX12_matrix_196 : decode cX12_matrix 196 = .ok (.iload 4, 2) := by decide +kernel
theorem dX12_matrix_198 : decode cX12_matrix 198 = .ok (.ifCond .eq 73, 3) := by decide +kernel
theorem dX12_matrix_201 : decode cX12_matrix 201 = .ok (.iload 7, 2) := by decide +kernel
theorem dX12_matrix_203 : decode cX12_matrix 203 = .ok (.bipush 49, 2) := by decide +kernel
theorem dX12_matrix_205 : decode cX12_matrix 205 = .ok (.if_icmp .lt 66, 3) := by decide +kernel
theorem dX12_matrix_208 : decode cX12_matrix 208 = .ok (.iload 7, 2) := by decide +kernel
theorem dX12_matrix_210 : decode cX12_matrix 210 = .ok (.bipush 48, 2) := by decide +kernel
theorem dX12_matrix_212 : decode cX12_matrix 212 = .ok (.iload_n 2, 1) := by decide +kernel
theorem dX12_matrix_213 : decode cX12_matrix 213 = .ok (.iadd, 1) := by decide +kernel
theorem dX12_matrix_214 : decode cX12_matrix 214 = .ok (.if_icmp .ge 57, 3) := by decide +kernel
theorem dX12_matrix_217 : decode cX12_matrix 217 = .ok (.iload 7, 2) := by decide +kernel
theorem dX12_matrix_219 : decode cX12_matrix 219 = .ok (.bipush 48, 2) := by decide +kernel
theorem dX12_matrix_221 : decode cX12_matrix 221 = .ok (.isub, 1) := by decide +kernel
theorem dX12_matrix_222 : decode cX12_matrix 222 = .ok (.bipush 12, 2) := by decide +kernel
theorem dX12_matrix_224 : decode cX12_matrix 224 = .ok (.imul, 1) := by decide +kernel
theorem dX12_matrix_225 : decode cX12_matrix 225 = .ok (.iload_n 2, 1) := by decide +kernel
theorem dX12_matrix_226 : decode cX12_matrix 226 = .ok (.idiv, 1) := by decide +kernel
theorem dX12_matrix_227 : decode cX12_matrix 227 = .ok (.istore 8, 2) := by decide +kernel
theorem dX12_matrix_229 : decode cX12_matrix 229 = .ok (.aload_n 0, 1) := by decide +kernel
theorem dX12_matrix_230 : decode cX12_matrix 230 = .ok (.iload_n 3, 1) := by decide +kernel
theorem dX12_matrix_231 : decode cX12_matrix 231 = .ok (.ifCond .ne 8, 3) := by decide +kernel
theorem dX12_matrix_234 : decode cX12_matrix 234 = .ok (.iload 8, 2) := by decide +kernel
theorem dX12_matrix_236 : decode cX12_matrix 236 = .ok (.goto 4, 3) := by decide +kernel
theorem dX12_matrix_239 : decode cX12_matrix 239 = .ok (.iconst 0, 1) := by decide +kernel
theorem dX12_matrix_240 : decode cX12_matrix 240 = .ok (.iload_n 3, 1) := by decide +kernel
theorem dX12_matrix_241 : decode cX12_matrix 241 = .ok (.iconst 1, 1) := by decide +kernel
theorem dX12_matrix_242 : decode cX12_matrix 242 = .ok (.if_icmp .ne 8, 3) := by decide +kernel
theorem dX12_matrix_245 : decode cX12_matrix 245 = .ok (.iload 8, 2) := by decide +kernel
theorem dX12_matrix_247 : decode cX12_matrix 247 = .ok (.goto 4, 3) := by decide +kernel
theorem dX12_matrix_250 : decode cX12_matrix 250 = .ok (.iconst 0, 1) := by decide +kernel
theorem dX12_matrix_251 : decode cX12_matrix 251 = .ok (.iload_n 3, 1) := by decide +kernel
theorem dX12_matrix_252 : decode cX12_matrix 252 = .ok (.iconst 2, 1) := by decide +kernel
theorem dX12_matrix_253 : decode cX12_matrix 253 = .ok (.if_icmp .ne 8, 3) := by decide +kernel
theorem dX12_matrix_256 : decode cX12_matrix 256 = .ok (.iload 8, 2) := by decide +kernel
theorem dX12_matrix_258 : decode cX12_matrix 258 = .ok (.goto 4, 3) := by decide +kernel
theorem dX12_matrix_261 : decode cX12_matrix 261 = .ok (.iconst 0, 1) := by decide +kernel
theorem dX12_matrix_262 : decode cX12_matrix 262 = .ok (.invokevirtual 131, 3) := by decide +kernel
theorem dX12_matrix_265 : decode cX12_matrix 265 = .ok (.iconst 0, 1) := by decide +kernel
theorem dX12_matrix_266 : decode cX12_matrix 266 = .ok (.istore 4, 2) := by decide +kernel
theorem dX12_matrix_268 : decode cX12_matrix 268 = .ok (.goto 9, 3) := by decide +kernel
theorem dX12_matrix_271 : decode cX12_matrix 271 = .ok (.aload_n 0, 1) := by decide +kernel
theorem dX12_matrix_272 : decode cX12_matrix 272 = .ok (.invokevirtual 149, 3) := by decide +kernel
theorem dX12_matrix_275 : decode cX12_matrix 275 = .ok (.istore 6, 2) := by decide +kernel
theorem dX12_matrix_277 : decode cX12_matrix 277 = .ok (.aload_n 0, 1) := by decide +kernel
theorem dX12_matrix_278 : decode cX12_matrix 278 = .ok (.iload 6, 2) := by decide +kernel
theorem dX12_matrix_280 : decode cX12_matrix 280 = .ok (.ifCond .eq 12, 3) := by decide +kernel
theorem dX12_matrix_283 : decode cX12_matrix 283 = .ok (.aload_n 0, 1) := by decide +kernel
theorem dX12_matrix_284 : decode cX12_matrix 284 = .ok (.getfield 100, 3) := by decide +kernel
theorem dX12_matrix_287 : decode cX12_matrix 287 = .ok (.iconst 1, 1) := by decide +kernel
theorem dX12_matrix_288 : decode cX12_matrix 288 = .ok (.iadd, 1) := by decide +kernel
theorem dX12_matrix_289 : decode cX12_matrix 289 = .ok (.goto 7, 3) := by decide +kernel
theorem dX12_matrix_292 : decode cX12_matrix 292 = .ok (.aload_n 0, 1) := by decide +kernel
theorem dX12_matrix_293 : decode cX12_matrix 293 = .ok (.getfield 100, 3) := by decide +kernel
theorem dX12_matrix_296 : decode cX12_matrix 296 = .ok (.putfield 100, 3) := by decide +kernel
theorem dX12_matrix_299 : decode cX12_matrix 299 = .ok (.iinc 5 1, 3) := by decide +kernel
theorem dX12_matrix_302 : decode cX12_matrix 302 = .ok (.goto (-123), 3) := by decide +kernel
theorem dX12_matrix_305 : decode cX12_matrix 305 = .ok (.aload_n 0, 1) := by decide +kernel
theorem dX12_matrix_306 : decode cX12_matrix 306 = .ok (.invokevirtual 153, 3) := by decide +kernel
theorem dX12_matrix_309 : decode cX12_matrix 309 = .ok (.iload_n 2, 1) := by decide +kernel
theorem dX12_matrix_310 : decode cX12_matrix 310 = .ok (.iconst 1, 1) := by decide +kernel
theorem dX12_matrix_311 : decode cX12_matrix 311 = .ok (.if_icmp .le 49, 3) := by decide +kernel
theorem dX12_matrix_314 : decode cX12_matrix 314 = .ok (.aload_n 0, 1) := by decide +kernel
theorem dX12_matrix_315 : decode cX12_matrix 315 = .ok (.aload_n 0, 1) := by decide +kernel
theorem dX12_matrix_316 : decode cX12_matrix 316 = .ok (.getfield 114, 3) := by decide +kernel
theorem dX12_matrix_319 : decode cX12_matrix 319 = .ok (.ifCond .ne 7, 3) := by decide +kernel
theorem dX12_matrix_322 : decode cX12_matrix 322 = .ok (.iload_n 2, 1) := by decide +kernel
theorem dX12_matrix_323 : decode cX12_matrix 323 = .ok (.goto 7, 3) := by decide +kernel
theorem dX12_matrix_326 : decode cX12_matrix 326 = .ok (.aload_n 0, 1) := by decide +kernel
theorem dX12_matrix_327 : decode cX12_matrix 327 = .ok (.getfield 117, 3) := by decide +kernel
theorem dX12_matrix_330 : decode cX12_matrix 330 = .ok (.putfield 117, 3) := by decide +kernel
theorem dX12_matrix_333 : decode cX12_matrix 333 = .ok (.aload_n 0, 1) := by decide +kernel
theorem dX12_matrix_334 : decode cX12_matrix 334 = .ok (.dup, 1) := by decide +kernel
theorem dX12_matrix_335 : decode cX12_matrix 335 = .ok (.getfield 114, 3) := by decide +kernel
theorem dX12_matrix_338 : decode cX12_matrix 338 = .ok (.iconst 1, 1) := by decide +kernel
theorem dX12_matrix_339 : decode cX12_matrix 339 = .ok (.iadd, 1) := by decide +kernel
theorem dX12_matrix_340 : decode cX12_matrix 340 = .ok (.putfield 114, 3) := by decide +kernel
theorem dX12_matrix_343 : decode cX12_matrix 343 = .ok (.aload_n 0, 1) := by decide +kernel
theorem dX12_matrix_344 : decode cX12_matrix 344 = .ok (.iload_n 3, 1) := by decide +kernel
theorem dX12_matrix_345 : decode cX12_matrix 345 = .ok (.iconst 3, 1) := by decide +kernel
theorem dX12_matrix_346 : decode cX12_matrix 346 = .ok (.if_icmp .ge 7, 3) := by decide +kernel
theorem dX12_matrix_349 : decode cX12_matrix 349 = .ok (.iload_n 3, 1) := by decide +kernel
theorem dX12_matrix_350 : decode cX12_matrix 350 = .ok (.goto 7, 3) := by decide +kernel
theorem dX12_matrix_353 : decode cX12_matrix 353 = .ok (.aload_n 0, 1) := by decide +kernel
theorem dX12_matrix_354 : decode cX12_matrix 354 = .ok (.getfield 124, 3) := by decide +kernel
theorem dX12_matrix_357 : decode cX12_matrix 357 = .ok (.putfield 124, 3) := by decide +kernel
theorem dX12_matrix_360 : decode cX12_matrix 360 = .ok (.iconst 1, 1) := by decide +kernel
theorem dX12_matrix_361 : decode cX12_matrix 361 = .ok (.ireturn, 1) := by decide +kernel
theorem dX12_blanks_0 : decode cX12_blanks 0 = .ok (.aload_n 0, 1) := by decide +kernel
theorem dX12_blanks_1 : decode cX12_blanks 1 = .ok (.invokevirtual 110, 3) := by decide +kernel
theorem dX12_blanks_4 : decode cX12_blanks 4 = .ok (.bipush 32, 2) := by decide +kernel
theorem dX12_blanks_6 : decode cX12_blanks 6 = .ok (.if_icmp .ne 16, 3) := by decide +kernel
theorem dX12_blanks_9 : decode cX12_blanks 9 = .ok (.aload_n 0, 1) := by decide +kernel
theorem dX12_blanks_10 : decode cX12_blanks 10 = .ok (.dup, 1) := by decide +kernel
theorem dX12_blanks_11 : decode cX12_blanks 11 = .ok (.getfield 100, 3) := by decide +kernel
theorem dX12_blanks_14 : decode cX12_blanks 14 = .ok (.iconst 1, 1) := by decide +kernel
theorem dX12_blanks_15 : decode cX12_blanks 15 = .ok (.iadd, 1) := by decide +kernel
theorem dX12_blanks_16 : decode cX12_blanks 16 = .ok (.putfield 100, 3) := by decide +kernel
theorem dX12_blanks_19 : decode cX12_blanks 19 = .ok (.goto (-19), 3) := by decide +kernel
theorem dX12_blanks_22 : decode cX12_blanks 22 = .ok (.return_, 1) := by decide +kernel
theorem dX12_centre_0 : decode cX12_centre 0 = .ok (.aload_n 0, 1) := by decide +kernel
theorem dX12_centre_1 : decode cX12_centre 1 = .ok (.iconst 1, 1) := by decide +kernel
theorem dX12_centre_2 : decode cX12_centre 2 = .ok (.iconst 0, 1) := by decide +kernel
theorem dX12_centre_3 : decode cX12_centre 3 = .ok (.iconst 0, 1) := by decide +kernel
theorem dX12_centre_4 : decode cX12_centre 4 = .ok (.iconst 0, 1) := by decide +kernel
theorem dX12_centre_5 : decode cX12_centre 5 = .ok (.iconst 1, 1) := by decide +kernel
theorem dX12_centre_6 : decode cX12_centre 6 = .ok (.iconst 0, 1) := by decide +kernel
theorem dX12_centre_7 : decode cX12_centre 7 = .ok (.iconst 0, 1) := by decide +kernel
theorem dX12_centre_8 : decode cX12_centre 8 = .ok (.iconst 0, 1) := by decide +kernel
theorem dX12_centre_9 : decode cX12_centre 9 = .ok (.iconst 1, 1) := by decide +kernel
theorem dX12_centre_10 : decode cX12_centre 10 = .ok (.invokevirtual 106, 3) := by decide +kernel
theorem dX12_centre_13 : decode cX12_centre 13 = .ok (.aload_n 0, 1) := by decide +kernel
theorem dX12_centre_14 : decode cX12_centre 14 = .ok (.iload_n 1, 1) := by decide +kernel
theorem dX12_centre_15 : decode cX12_centre 15 = .ok (.iload_n 2, 1) := by decide +kernel
theorem dX12_centre_16 : decode cX12_centre 16 = .ok (.iload_n 3, 1) := by decide +kernel
theorem dX12_centre_17 : decode cX12_centre 17 = .ok (.invokevirtual 127, 3) := by decide +kernel
theorem dX12_centre_20 : decode cX12_centre 20 = .ok (.aload_n 0, 1) := by decide +kernel
theorem dX12_centre_21 : decode cX12_centre 21 = .ok (.invokevirtual 153, 3) := by decide +kernel
theorem dX12_centre_24 : decode cX12_centre 24 = .ok (.return_, 1) := by decide +kernel
theorem dX12_letter_0 : decode cX12_letter 0 = .ok (.aload_n 0, 1) := by decide +kernel
theorem dX12_letter_1 : decode cX12_letter 1 = .ok (.invokevirtual 110, 3) := by decide +kernel
theorem dX12_letter_4 : decode cX12_letter 4 = .ok (.tableswitch 183 65 82 #[90, 101, 112, 183, 183, 154, 183, 183, 123, 183, 183, 183, 183, 183, 183, 88, 183, 135], 88) := by decide +kernel
theorem dX12_letter_92 : decode cX12_letter 92 = .ok (.iconst 1, 1) := by decide +kernel
theorem dX12_letter_93 : decode cX12_letter 93 = .ok (.ireturn, 1) := by decide +kernel
theorem dX12_letter_94 : decode cX12_letter 94 = .ok (.aload_n 0, 1) := by decide +kernel
theorem dX12_letter_95 : decode cX12_letter 95 = .ok (.iconst 0, 1) := by decide +kernel
theorem dX12_letter_96 : decode cX12_letter 96 = .ok (.bipush 6, 2) := by decide +kernel
theorem dX12_letter_98 : decode cX12_letter 98 = .ok (.bipush 6, 2) := by decide +kernel
theorem dX12_letter_100 : decode cX12_letter 100 = .ok (.invokevirtual 156, 3) := by decide +kernel
theorem dX12_letter_103 : decode cX12_letter 103 = .ok (.iconst 1, 1) := by decide +kernel
theorem dX12_letter_104 : decode cX12_letter 104 = .ok (.ireturn, 1) := by decide +kernel
theorem dX12_letter_105 : decode cX12_letter 105 = .ok (.aload_n 0, 1) := by decide +kernel
theorem dX12_letter_106 : decode cX12_letter 106 = .ok (.bipush 6, 2) := by decide +kernel
theorem dX12_letter_108 : decode cX12_letter 108 = .ok (.iconst 0, 1) := by decide +kernel
theorem dX12_letter_109 : decode cX12_letter 109 = .ok (.bipush 6, 2) := by decide +kernel
theorem dX12_letter_111 : decode cX12_letter 111 = .ok (.invokevirtual 156, 3) := by decide +kernel
theorem dX12_letter_114 : decode cX12_letter 114 = .ok (.iconst 1, 1) := by decide +kernel
theorem dX12_letter_115 : decode cX12_letter 115 = .ok (.ireturn, 1) := by decide +kernel
theorem dX12_letter_116 : decode cX12_letter 116 = .ok (.aload_n 0, 1) := by decide +kernel
theorem dX12_letter_117 : decode cX12_letter 117 = .ok (.bipush 6, 2) := by decide +kernel
theorem dX12_letter_119 : decode cX12_letter 119 = .ok (.bipush 6, 2) := by decide +kernel
theorem dX12_letter_121 : decode cX12_letter 121 = .ok (.iconst 0, 1) := by decide +kernel
theorem dX12_letter_122 : decode cX12_letter 122 = .ok (.invokevirtual 156, 3) := by decide +kernel
theorem dX12_letter_125 : decode cX12_letter 125 = .ok (.iconst 1, 1) := by decide +kernel
theorem dX12_letter_126 : decode cX12_letter 126 = .ok (.ireturn, 1) := by decide +kernel
theorem dX12_letter_127 : decode cX12_letter 127 = .ok (.aload_n 0, 1) := by decide +kernel
theorem dX12_letter_128 : decode cX12_letter 128 = .ok (.bipush 6, 2) := by decide +kernel
theorem dX12_letter_130 : decode cX12_letter 130 = .ok (.bipush 6, 2) := by decide +kernel
theorem dX12_letter_132 : decode cX12_letter 132 = .ok (.bipush 6, 2) := by decide +kernel
theorem dX12_letter_134 : decode cX12_letter 134 = .ok (.invokevirtual 156, 3) := by decide +kernel
theorem dX12_letter_137 : decode cX12_letter 137 = .ok (.iconst 1, 1) := by decide +kernel
theorem dX12_letter_138 : decode cX12_letter 138 = .ok (.ireturn, 1) := by decide +kernel
theorem dX12_letter_139 : decode cX12_letter 139 = .ok (.aload_n 0, 1) := by decide +kernel
theorem dX12_letter_140 : decode cX12_letter 140 = .ok (.bipush 8, 2) := by decide +kernel
theorem dX12_letter_142 : decode cX12_letter 142 = .ok (.iconst 4, 1) := by decide +kernel
theorem dX12_letter_143 : decode cX12_letter 143 = .ok (.iconst 4, 1) := by decide +kernel
theorem dX12_letter_144 : decode cX12_letter 144 = .ok (.invokevirtual 156, 3) := by decide +kernel
theorem dX12_letter_147 : decode cX12_letter 147 = .ok (.aload_n 0, 1) := by decide +kernel
theorem dX12_letter_148 : decode cX12_letter 148 = .ok (.iconst 4, 1) := by decide +kernel
theorem dX12_letter_149 : decode cX12_letter 149 = .ok (.bipush 8, 2) := by decide +kernel
theorem dX12_letter_151 : decode cX12_letter 151 = .ok (.bipush 8, 2) := by decide +kernel
theorem dX12_letter_153 : decode cX12_letter 153 = .ok (.invokevirtual 156, 3) := by decide +kernel
theorem dX12_letter_156 : decode cX12_letter 156 = .ok (.iconst 1, 1) := by decide +kernel
theorem dX12_letter_157 : decode cX12_letter 157 = .ok (.ireturn, 1) := by decide +kernel
theorem dX12_letter_158 : decode cX12_letter 158 = .ok (.aload_n 0, 1) := by decide +kernel
theorem dX12_letter_159 : decode cX12_letter 159 = .ok (.iconst 0, 1) := by decide +kernel
theorem dX12_letter_160 : decode cX12_letter 160 = .ok (.bipush 6, 2) := by decide +kernel
theorem dX12_letter_162 : decode cX12_letter 162 = .ok (.bipush 6, 2) := by decide +kernel
theorem dX12_letter_164 : decode cX12_letter 164 = .ok (.invokevirtual 156, 3) := by decide +kernel
theorem dX12_letter_167 : decode cX12_letter 167 = .ok (.aload_n 0, 1) := by decide +kernel
theorem dX12_letter_168 : decode cX12_letter 168 = .ok (.bipush 6, 2) := by decide +kernel
theorem dX12_letter_170 : decode cX12_letter 170 = .ok (.iconst 0, 1) := by decide +kernel
theorem dX12_letter_171 : decode cX12_letter 171 = .ok (.bipush 6, 2) := by decide +kernel
theorem dX12_letter_173 : decode cX12_letter 173 = .ok (.invokevirtual 156, 3) := by decide +kernel
theorem dX12_letter_176 : decode cX12_letter 176 = .ok (.aload_n 0, 1) := by decide +kernel
theorem dX12_letter_177 : decode cX12_letter 177 = .ok (.bipush 6, 2) := by decide +kernel
theorem dX12_letter_179 : decode cX12_letter 179 = .ok (.bipush 6, 2) := by decide +kernel
theorem dX12_letter_181 : decode cX12_letter 181 = .ok (.iconst 0, 1) := by decide +kernel
theorem dX12_letter_182 : decode cX12_letter 182 = .ok (.invokevirtual 156, 3) := by decide +kernel
theorem dX12_letter_185 : decode cX12_letter 185 = .ok (.iconst 1, 1) := by decide +kernel
theorem dX12_letter_186 : decode cX12_letter 186 = .ok (.ireturn, 1) := by decide +kernel
theorem dX12_letter_187 : decode cX12_letter 187 = .ok (.iconst 0, 1) := by decide +kernel
theorem dX12_letter_188 : decode cX12_letter 188 = .ok (.ireturn, 1) := by decide +kernel
theorem dX12_isSymbol_0 : decode cX12_isSymbol 0 = .ok (.aload_n 0, 1) := by decide +kernel
theorem dX12_isSymbol_1 : decode cX12_isSymbol 1 = .ok (.iconst 0, 1) := by decide +kernel
theorem dX12_isSymbol_2 : decode cX12_isSymbol 2 = .ok (.putfield 100, 3) := by decide +kernel
theorem dX12_isSymbol_5 : decode cX12_isSymbol 5 = .ok (.aload_n 0, 1) := by decide +kernel
theorem dX12_isSymbol_6 : decode cX12_isSymbol 6 = .ok (.iconst 0, 1) := by decide +kernel
theorem dX12_isSymbol_7 : decode cX12_isSymbol 7 = .ok (.putfield 103, 3) := by decide +kernel
theorem dX12_isSymbol_10 : decode cX12_isSymbol 10 = .ok (.aload_n 0, 1) := by decide +kernel
theorem dX12_isSymbol_11 : decode cX12_isSymbol 11 = .ok (.iconst 0, 1) := by decide +kernel
theorem dX12_isSymbol_12 : decode cX12_isSymbol 12 = .ok (.putfield 114, 3) := by decide +kernel
theorem dX12_isSymbol_15 : decode cX12_isSymbol 15 = .ok (.aload_n 0, 1) := by decide +kernel
theorem dX12_isSymbol_16 : decode cX12_isSymbol 16 = .ok (.iconst 0, 1) := by decide +kernel
theorem dX12_isSymbol_17 : decode cX12_isSymbol 17 = .ok (.putfield 117, 3) := by decide +kernel
theorem dX12_isSymbol_20 : decode cX12_isSymbol 20 = .ok (.aload_n 0, 1) := by decide +kernel
theorem dX12_isSymbol_21 : decode cX12_isSymbol 21 = .ok (.iconst 2, 1) := by decide +kernel
theorem dX12_isSymbol_22 : decode cX12_isSymbol 22 = .ok (.putfield 124, 3) := by decide +kernel
theorem dX12_isSymbol_25 : decode cX12_isSymbol 25 = .ok (.aload_n 0, 1) := by decide +kernel
theorem dX12_isSymbol_26 : decode cX12_isSymbol 26 = .ok (.invokevirtual 159, 3) := by decide +kernel
theorem dX12_isSymbol_29 : decode cX12_isSymbol 29 = .ok (.aload_n 0, 1) := by decide +kernel
theorem dX12_isSymbol_30 : decode cX12_isSymbol 30 = .ok (.invokevirtual 110, 3) := by decide +kernel
theorem dX12_isSymbol_33 : decode cX12_isSymbol 33 = .ok (.bipush 45, 2) := by decide +kernel
theorem dX12_isSymbol_35 : decode cX12_isSymbol 35 = .ok (.if_icmp .ne 37, 3) := by decide +kernel
theorem dX12_isSymbol_38 : decode cX12_isSymbol 38 = .ok (.aload_n 0, 1) := by decide +kernel
theorem dX12_isSymbol_39 : decode cX12_isSymbol 39 = .ok (.iconst (-1), 1) := by decide +kernel
theorem dX12_isSymbol_40 : decode cX12_isSymbol 40 = .ok (.iconst 0, 1) := by decide +kernel
theorem dX12_isSymbol_41 : decode cX12_isSymbol 41 = .ok (.iconst 0, 1) := by decide +kernel
theorem dX12_isSymbol_42 : decode cX12_isSymbol 42 = .ok (.iconst 0, 1) := by decide +kernel
theorem dX12_isSymbol_43 : decode cX12_isSymbol 43 = .ok (.iconst (-1), 1) := by decide +kernel
theorem dX12_isSymbol_44 : decode cX12_isSymbol 44 = .ok (.iconst 0, 1) := by decide +kernel
theorem dX12_isSymbol_45 : decode cX12_isSymbol 45 = .ok (.iconst 0, 1) := by decide +kernel
theorem dX12_isSymbol_46 : decode cX12_isSymbol 46 = .ok (.iconst 0, 1) := by decide +kernel
theorem dX12_isSymbol_47 : decode cX12_isSymbol 47 = .ok (.iconst (-1), 1) := by decide +kernel
theorem dX12_isSymbol_48 : decode cX12_isSymbol 48 = .ok (.invokevirtual 106, 3) := by decide +kernel
theorem dX12_isSymbol_51 : decode cX12_isSymbol 51 = .ok (.aload_n 0, 1) := by decide +kernel
theorem dX12_isSymbol_52 : decode cX12_isSymbol 52 = .ok (.iconst 0, 1) := by decide +kernel
theorem dX12_isSymbol_53 : decode cX12_isSymbol 53 = .ok (.iconst 0, 1) := by decide +kernel
theorem dX12_isSymbol_54 : decode cX12_isSymbol 54 = .ok (.iconst 0, 1) := by decide +kernel
theorem dX12_isSymbol_55 : decode cX12_isSymbol 55 = .ok (.invokevirtual 127, 3) := by decide +kernel
theorem dX12_isSymbol_58 : decode cX12_isSymbol 58 = .ok (.aload_n 0, 1) := by decide +kernel
theorem dX12_isSymbol_59 : decode cX12_isSymbol 59 = .ok (.invokevirtual 153, 3) := by decide +kernel
theorem dX12_isSymbol_62 : decode cX12_isSymbol 62 = .ok (.aload_n 0, 1) := by decide +kernel
theorem dX12_isSymbol_63 : decode cX12_isSymbol 63 = .ok (.dup, 1) := by decide +kernel
theorem dX12_isSymbol_64 : decode cX12_isSymbol 64 = .ok (.getfield 100, 3) := by decide +kernel
theorem dX12_isSymbol_67 : decode cX12_isSymbol 67 = .ok (.iconst 1, 1) := by decide +kernel
theorem dX12_isSymbol_68 : decode cX12_isSymbol 68 = .ok (.iadd, 1) := by decide +kernel
theorem dX12_isSymbol_69 : decode cX12_isSymbol 69 = .ok (.putfield 100, 3) := by decide +kernel
theorem dX12_isSymbol_72 : decode cX12_isSymbol 72 = .ok (.aload_n 0, 1) := by decide +kernel
theorem dX12_isSymbol_73 : decode cX12_isSymbol 73 = .ok (.invokevirtual 162, 3) := by decide +kernel
theorem dX12_isSymbol_76 : decode cX12_isSymbol 76 = .ok (.ifCond .ne 5, 3) := by decide +kernel
theorem dX12_isSymbol_79 : decode cX12_isSymbol 79 = .ok (.iconst 0, 1) := by decide +kernel
theorem dX12_isSymbol_80 : decode cX12_isSymbol 80 = .ok (.ireturn, 1) := by decide +kernel
theorem dX12_isSymbol_81 : decode cX12_isSymbol 81 = .ok (.aload_n 0, 1) := by decide +kernel
theorem dX12_isSymbol_82 : decode cX12_isSymbol 82 = .ok (.dup, 1) := by decide +kernel
theorem dX12_isSymbol_83 : decode cX12_isSymbol 83 = .ok (.getfield 100, 3) := by decide +kernel
theorem dX12_isSymbol_86 : decode cX12_isSymbol 86 = .ok (.iconst 1, 1) := by decide +kernel
theorem dX12_isSymbol_87 : decode cX12_isSymbol 87 = .ok (.iadd, 1) := by decide +kernel
theorem dX12_isSymbol_88 : decode cX12_isSymbol 88 = .ok (.putfield 100, 3) := by decide +kernel
theorem dX12_isSymbol_91 : decode cX12_isSymbol 91 = .ok (.iconst 0, 1) := by decide +kernel
theorem dX12_isSymbol_92 : decode cX12_isSymbol 92 = .ok (.istore_n 1, 1) := by decide +kernel
theorem dX12_isSymbol_93 : decode cX12_isSymbol 93 = .ok (.iload_n 1, 1) := by decide +kernel
theorem dX12_isSymbol_94 : decode cX12_isSymbol 94 = .ok (.iconst 5, 1) := by decide +kernel
theorem dX12_isSymbol_95 : decode cX12_isSymbol 95 = .ok (.if_icmp .ge 72, 3) := by decide +kernel
theorem dX12_isSymbol_98 : decode cX12_isSymbol 98 = .ok (.iload_n 1, 1) := by decide +kernel
theorem dX12_isSymbol_99 : decode cX12_isSymbol 99 = .ok (.ifCond .le 16, 3) := by decide +kernel
theorem dX12_isSymbol_102 : decode cX12_isSymbol 102 = .ok (.aload_n 0, 1) := by decide +kernel
theorem dX12_isSymbol_103 : decode cX12_isSymbol 103 = .ok (.getfield 100, 3) := by decide +kernel
theorem dX12_isSymbol_106 : decode cX12_isSymbol 106 = .ok (.aload_n 0, 1) := by decide +kernel
theorem dX12_isSymbol_107 : decode cX12_isSymbol 107 = .ok (.getfield 89, 3) := by decide +kernel
theorem dX12_isSymbol_110 : decode cX12_isSymbol 110 = .ok (.if_icmp .ne 5, 3) := by decide +kernel
theorem dX12_isSymbol_113 : decode cX12_isSymbol 113 = .ok (.iconst 1, 1) := by decide +kernel
theorem dX12_isSymbol_114 : decode cX12_isSymbol 114 = .ok (.ireturn, 1) := by decide +kernel
theorem dX12_isSymbol_115 : decode cX12_isSymbol 115 = .ok (.aload_n 0, 1) := by decide +kernel
theorem dX12_isSymbol_116 : decode cX12_isSymbol 116 = .ok (.invokevirtual 110, 3) := by decide +kernel
theorem dX12_isSymbol_119 : decode cX12_isSymbol 119 = .ok (.bipush 32, 2) := by decide +kernel
theorem dX12_isSymbol_121 : decode cX12_isSymbol 121 = .ok (.if_icmp .eq 5, 3) := by decide +kernel
theorem dX12_isSymbol_124 : decode cX12_isSymbol 124 = .ok (.iconst 0, 1) := by decide +kernel
theorem dX12_isSymbol_125 : decode cX12_isSymbol 125 = .ok (.ireturn, 1) := by decide +kernel
theorem dX12_isSymbol_126 : decode cX12_isSymbol 126 = .ok (.aload_n 0, 1) := by decide +kernel
theorem dX12_isSymbol_127 : decode cX12_isSymbol 127 = .ok (.invokevirtual 159, 3) := by decide +kernel
theorem dX12_isSymbol_130 : decode cX12_isSymbol 130 = .ok (.iload_n 1, 1) := by decide +kernel
theorem dX12_isSymbol_131 : decode cX12_isSymbol 131 = .ok (.ifCond .le 16, 3) := by decide +kernel
theorem dX12_isSymbol_134 : decode cX12_isSymbol 134 = .ok (.aload_n 0, 1) := by decide +kernel
theorem dX12_isSymbol_135 : decode cX12_isSymbol 135 = .ok (.getfield 100, 3) := by decide +kernel
theorem dX12_isSymbol_138 : decode cX12_isSymbol 138 = .ok (.aload_n 0, 1) := by decide +kernel
theorem dX12_isSymbol_139 : decode cX12_isSymbol 139 = .ok (.getfield 89, 3) := by decide +kernel
theorem dX12_isSymbol_142 : decode cX12_isSymbol 142 = .ok (.if_icmp .ne 5, 3) := by decide +kernel
theorem dX12_isSymbol_145 : decode cX12_isSymbol 145 = .ok (.iconst 1, 1) := by decide +kernel
theorem dX12_isSymbol_146 : decode cX12_isSymbol 146 = .ok (.ireturn, 1) := by decide +kernel
theorem dX12_isSymbol_147 : decode cX12_isSymbol 147 = .ok (.iload_n 1, 1) := by decide +kernel
theorem dX12_isSymbol_148 : decode cX12_isSymbol 148 = .ok (.iconst 4, 1) := by decide +kernel
theorem dX12_isSymbol_149 : decode cX12_isSymbol 149 = .ok (.if_icmp .eq 10, 3) := by decide +kernel
theorem dX12_isSymbol_152 : decode cX12_isSymbol 152 = .ok (.aload_n 0, 1) := by decide +kernel
theorem dX12_isSymbol_153 : decode cX12_isSymbol 153 = .ok (.invokevirtual 165, 3) := by decide +kernel
theorem dX12_isSymbol_156 : decode cX12_isSymbol 156 = .ok (.ifCond .ne 5, 3) := by decide +kernel
theorem dX12_isSymbol_159 : decode cX12_isSymbol 159 = .ok (.iconst 0, 1) := by decide +kernel
theorem dX12_isSymbol_160 : decode cX12_isSymbol 160 = .ok (.ireturn, 1) := by decide +kernel
theorem dX12_isSymbol_161 : decode cX12_isSymbol 161 = .ok (.iinc 1 1, 3) := by decide +kernel
theorem dX12_isSymbol_164 : decode cX12_isSymbol 164 = .ok (.goto (-71), 3) := by decide +kernel
theorem dX12_isSymbol_167 : decode cX12_isSymbol 167 = .ok (.iconst 0, 1) := by decide +kernel
theorem dX12_isSymbol_168 : decode cX12_isSymbol 168 = .ok (.ireturn, 1) := by decide +kernel
theorem dX12_multiply_0 : decode cX12_multiply 0 = .ok (.iconst 0, 1) := by decide +kernel
theorem dX12_multiply_1 : decode cX12_multiply 1 = .ok (.istore_n 3, 1) := by decide +kernel
theorem dX12_multiply_2 : decode cX12_multiply 2 = .ok (.iload_n 3, 1) := by decide +kernel
theorem dX12_multiply_3 : decode cX12_multiply 3 = .ok (.iconst 3, 1) := by decide +kernel
theorem dX12_multiply_4 : decode cX12_multiply 4 = .ok (.if_icmp .ge 171, 3) := by decide +kernel
theorem dX12_multiply_7 : decode cX12_multiply 7 = .ok (.iconst 0, 1) := by decide +kernel
theorem dX12_multiply_8 : decode cX12_multiply 8 = .ok (.istore 4, 2) := by decide +kernel
theorem dX12_multiply_10 : decode cX12_multiply 10 = .ok (.iload 4, 2) := by decide +kernel
theorem dX12_multiply_12 : decode cX12_multiply 12 = .ok (.iconst 3, 1) := by decide +kernel
theorem dX12_multiply_13 : decode cX12_multiply 13 = .ok (.if_icmp .ge 79, 3) := by decide +kernel
theorem dX12_multiply_16 : decode cX12_multiply 16 = .ok (.iconst 0, 1) := by decide +kernel
theorem dX12_multiply_17 : decode cX12_multiply 17 = .ok (.istore 5, 2) := by decide +kernel
theorem dX12_multiply_19 : decode cX12_multiply 19 = .ok (.iconst 0, 1) := by decide +kernel
theorem dX12_multiply_20 : decode cX12_multiply 20 = .ok (.istore 6, 2) := by decide +kernel
theorem dX12_multiply_22 : decode cX12_multiply 22 = .ok (.iload 6, 2) := by decide +kernel
theorem dX12_multiply_24 : decode cX12_multiply 24 = .ok (.iconst 3, 1) := by decide +kernel
theorem dX12_multiply_25 : decode cX12_multiply 25 = .ok (.if_icmp .ge 48, 3) := by decide +kernel
theorem dX12_multiply_28 : decode cX12_multiply 28 = .ok (.iload 5, 2) := by decide +kernel
theorem dX12_multiply_30 : decode cX12_multiply 30 = .ok (.aload_n 0, 1) := by decide +kernel
theorem dX12_multiply_31 : decode cX12_multiply 31 = .ok (.getfield 20, 3) := by decide +kernel
theorem dX12_multiply_34 : decode cX12_multiply 34 = .ok (.bipush 9, 2) := by decide +kernel
theorem dX12_multiply_36 : decode cX12_multiply 36 = .ok (.iload_n 1, 1) := by decide +kernel
theorem dX12_multiply_37 : decode cX12_multiply 37 = .ok (.imul, 1) := by decide +kernel
theorem dX12_multiply_38 : decode cX12_multiply 38 = .ok (.iconst 3, 1) := by decide +kernel
theorem dX12_multiply_39 : decode cX12_multiply 39 = .ok (.iload_n 3, 1) := by decide +kernel
theorem dX12_multiply_40 : decode cX12_multiply 40 = .ok (.imul, 1) := by decide +kernel
theorem dX12_multiply_41 : decode cX12_multiply 41 = .ok (.iadd, 1) := by decide +kernel
theorem dX12_multiply_42 : decode cX12_multiply 42 = .ok (.iload 6, 2) := by decide +kernel
theorem dX12_multiply_44 : decode cX12_multiply 44 = .ok (.iadd, 1) := by decide +kernel
theorem dX12_multiply_45 : decode cX12_multiply 45 = .ok (.iaload, 1) := by decide +kernel
theorem dX12_multiply_46 : decode cX12_multiply 46 = .ok (.aload_n 0, 1) := by decide +kernel
theorem dX12_multiply_47 : decode cX12_multiply 47 = .ok (.getfield 26, 3) := by decide +kernel
theorem dX12_multiply_50 : decode cX12_multiply 50 = .ok (.bipush 9, 2) := by decide +kernel
theorem dX12_multiply_52 : decode cX12_multiply 52 = .ok (.iload_n 2, 1) := by decide +kernel
theorem dX12_multiply_53 : decode cX12_multiply 53 = .ok (.imul, 1) := by decide +kernel
theorem dX12_multiply_54 : decode cX12_multiply 54 = .ok (.iconst 3, 1) := by decide +kernel
theorem dX12_multiply_55 : decode cX12_multiply 55 = .ok (.iload 6, 2) := by decide +kernel
theorem dX12_multiply_57 : decode cX12_multiply 57 = .ok (.imul, 1) := by decide +kernel
theorem dX12_multiply_58 : decode cX12_multiply 58 = .ok (.iadd, 1) := by decide +kernel
theorem dX12_multiply_59 : decode cX12_multiply 59 = .ok (.iload 4, 2) := by decide +kernel
theorem dX12_multiply_61 : decode cX12_multiply 61 = .ok (.iadd, 1) := by decide +kernel
theorem dX12_multiply_62 : decode cX12_multiply 62 = .ok (.iaload, 1) := by decide +kernel
theorem dX12_multiply_63 : decode cX12_multiply 63 = .ok (.imul, 1) := by decide +kernel
theorem dX12_multiply_64 : decode cX12_multiply 64 = .ok (.iadd, 1) := by decide +kernel
theorem dX12_multiply_65 : decode cX12_multiply 65 = .ok (.istore 5, 2) := by decide +kernel
theorem dX12_multiply_67 : decode cX12_multiply 67 = .ok (.iinc 6 1, 3) := by decide +kernel
theorem dX12_multiply_70 : decode cX12_multiply 70 = .ok (.goto (-48), 3) := by decide +kernel
theorem dX12_multiply_73 : decode cX12_multiply 73 = .ok (.aload_n 0, 1) := by decide +kernel
theorem dX12_multiply_74 : decode cX12_multiply 74 = .ok (.getfield 32, 3) := by decide +kernel
theorem dX12_multiply_77 : decode cX12_multiply 77 = .ok (.iconst 3, 1) := by decide +kernel
theorem dX12_multiply_78 : decode cX12_multiply 78 = .ok (.iload_n 3, 1) := by decide +kernel
theorem dX12_multiply_79 : decode cX12_multiply 79 = .ok (.imul, 1) := by decide +kernel
theorem dX12_multiply_80 : decode cX12_multiply 80 = .ok (.iload 4, 2) := by decide +kernel
theorem dX12_multiply_82 : decode cX12_multiply 82 = .ok (.iadd, 1) := by decide +kernel
theorem dX12_multiply_83 : decode cX12_multiply 83 = .ok (.iload 5, 2) := by decide +kernel
theorem dX12_multiply_85 : decode cX12_multiply 85 = .ok (.iastore, 1) := by decide +kernel
theorem dX12_multiply_86 : decode cX12_multiply 86 = .ok (.iinc 4 1, 3) := by decide +kernel
theorem dX12_multiply_89 : decode cX12_multiply 89 = .ok (.goto (-79), 3) := by decide +kernel
theorem dX12_multiply_92 : decode cX12_multiply 92 = .ok (.aload_n 0, 1) := by decide +kernel
theorem dX12_multiply_93 : decode cX12_multiply 93 = .ok (.getfield 23, 3) := by decide +kernel
theorem dX12_multiply_96 : decode cX12_multiply 96 = .ok (.iconst 3, 1) := by decide +kernel
theorem dX12_multiply_97 : decode cX12_multiply 97 = .ok (.iload_n 1, 1) := by decide +kernel
theorem dX12_multiply_98 : decode cX12_multiply 98 = .ok (.imul, 1) := by decide +kernel
theorem dX12_multiply_99 : decode cX12_multiply 99 = .ok (.iload_n 3, 1) := by decide +kernel
theorem dX12_multiply_100 : decode cX12_multiply 100 = .ok (.iadd, 1) := by decide +kernel
theorem dX12_multiply_101 : decode cX12_multiply 101 = .ok (.iaload, 1) := by decide +kernel
theorem dX12_multiply_102 : decode cX12_multiply 102 = .ok (.istore 4, 2) := by decide +kernel
theorem dX12_multiply_104 : decode cX12_multiply 104 = .ok (.iconst 0, 1) := by decide +kernel
theorem dX12_multiply_105 : decode cX12_multiply 105 = .ok (.istore 5, 2) := by decide +kernel
theorem dX12_multiply_107 : decode cX12_multiply 107 = .ok (.iload 5, 2) := by decide +kernel
theorem dX12_multiply_109 : decode cX12_multiply 109 = .ok (.iconst 3, 1) := by decide +kernel
theorem dX12_multiply_110 : decode cX12_multiply 110 = .ok (.if_icmp .ge 42, 3) := by decide +kernel
theorem dX12_multiply_113 : decode cX12_multiply 113 = .ok (.iload 4, 2) := by decide +kernel
theorem dX12_multiply_115 : decode cX12_multiply 115 = .ok (.aload_n 0, 1) := by decide +kernel
theorem dX12_multiply_116 : decode cX12_multiply 116 = .ok (.getfield 20, 3) := by decide +kernel
theorem dX12_multiply_119 : decode cX12_multiply 119 = .ok (.bipush 9, 2) := by decide +kernel
theorem dX12_multiply_121 : decode cX12_multiply 121 = .ok (.iload_n 1, 1) := by decide +kernel
theorem dX12_multiply_122 : decode cX12_multiply 122 = .ok (.imul, 1) := by decide +kernel
theorem dX12_multiply_123 : decode cX12_multiply 123 = .ok (.iconst 3, 1) := by decide +kernel
theorem dX12_multiply_124 : decode cX12_multiply 124 = .ok (.iload_n 3, 1) := by decide +kernel
theorem dX12_multiply_125 : decode cX12_multiply 125 = .ok (.imul, 1) := by decide +kernel
theorem dX12_multiply_126 : decode cX12_multiply 126 = .ok (.iadd, 1) := by decide +kernel
theorem dX12_multiply_127 : decode cX12_multiply 127 = .ok (.iload 5, 2) := by decide +kernel
theorem dX12_multiply_129 : decode cX12_multiply 129 = .ok (.iadd, 1) := by decide +kernel
theorem dX12_multiply_130 : decode cX12_multiply 130 = .ok (.iaload, 1) := by decide +kernel
theorem dX12_multiply_131 : decode cX12_multiply 131 = .ok (.aload_n 0, 1) := by decide +kernel
theorem dX12_multiply_132 : decode cX12_multiply 132 = .ok (.getfield 29, 3) := by decide +kernel
theorem dX12_multiply_135 : decode cX12_multiply 135 = .ok (.iconst 3, 1) := by decide +kernel
theorem dX12_multiply_136 : decode cX12_multiply 136 = .ok (.iload_n 2, 1) := by decide +kernel
theorem dX12_multiply_137 : decode cX12_multiply 137 = .ok (.imul, 1) := by decide +kernel
theorem dX12_multiply_138 : decode cX12_multiply 138 = .ok (.iload 5, 2) := by decide +kernel
theorem dX12_multiply_140 : decode cX12_multiply 140 = .ok (.iadd, 1) := by decide +kernel
theorem dX12_multiply_141 : decode cX12_multiply 141 = .ok (.iaload, 1) := by decide +kernel
theorem dX12_multiply_142 : decode cX12_multiply 142 = .ok (.imul, 1) := by decide +kernel
theorem dX12_multiply_143 : decode cX12_multiply 143 = .ok (.iadd, 1) := by decide +kernel
theorem dX12_multiply_144 : decode cX12_multiply 144 = .ok (.istore 4, 2) := by decide +kernel
theorem dX12_multiply_146 : decode cX12_multiply 146 = .ok (.iinc 5 1, 3) := by decide +kernel
theorem dX12_multiply_149 : decode cX12_multiply 149 = .ok (.goto (-42), 3) := by decide +kernel
theorem dX12_multiply_152 : decode cX12_multiply 152 = .ok (.aload_n 0, 1) := by decide +kernel
theorem dX12_multiply_153 : decode cX12_multiply 153 = .ok (.getfield 35, 3) := by decide +kernel
theorem dX12_multiply_156 : decode cX12_multiply 156 = .ok (.iload_n 3, 1) := by decide +kernel
theorem dX12_multiply_157 : decode cX12_multiply 157 = .ok (.iload 4, 2) := by decide +kernel
theorem dX12_multiply_159 : decode cX12_multiply 159 = .ok (.bipush 12, 2) := by decide +kernel
theorem dX12_multiply_161 : decode cX12_multiply 161 = .ok (.irem, 1) := by decide +kernel
theorem dX12_multiply_162 : decode cX12_multiply 162 = .ok (.bipush 12, 2) := by decide +kernel
theorem dX12_multiply_164 : decode cX12_multiply 164 = .ok (.iadd, 1) := by decide +kernel
theorem dX12_multiply_165 : decode cX12_multiply 165 = .ok (.bipush 12, 2) := by decide +kernel
theorem dX12_multiply_167 : decode cX12_multiply 167 = .ok (.irem, 1) := by decide +kernel
theorem dX12_multiply_168 : decode cX12_multiply 168 = .ok (.iastore, 1) := by decide +kernel
theorem dX12_multiply_169 : decode cX12_multiply 169 = .ok (.iinc 3 1, 3) := by decide +kernel
theorem dX12_multiply_172 : decode cX12_multiply 172 = .ok (.goto (-170), 3) := by decide +kernel
theorem dX12_multiply_175 : decode cX12_multiply 175 = .ok (.return_, 1) := by decide +kernel
theorem dX12_compare_0 : decode cX12_compare 0 = .ok (.iconst 0, 1) := by decide +kernel
theorem dX12_compare_1 : decode cX12_compare 1 = .ok (.istore_n 2, 1) := by decide +kernel
theorem dX12_compare_2 : decode cX12_compare 2 = .ok (.iload_n 2, 1) := by decide +kernel
theorem dX12_compare_3 : decode cX12_compare 3 = .ok (.bipush 9, 2) := by decide +kernel
theorem dX12_compare_5 : decode cX12_compare 5 = .ok (.if_icmp .ge 55, 3) := by decide +kernel
theorem dX12_compare_8 : decode cX12_compare 8 = .ok (.aload_n 0, 1) := by decide +kernel
theorem dX12_compare_9 : decode cX12_compare 9 = .ok (.getfield 32, 3) := by decide +kernel
theorem dX12_compare_12 : decode cX12_compare 12 = .ok (.iload_n 2, 1) := by decide +kernel
theorem dX12_compare_13 : decode cX12_compare 13 = .ok (.iaload, 1) := by decide +kernel
theorem dX12_compare_14 : decode cX12_compare 14 = .ok (.aload_n 0, 1) := by decide +kernel
theorem dX12_compare_15 : decode cX12_compare 15 = .ok (.getfield 20, 3) := by decide +kernel
theorem dX12_compare_18 : decode cX12_compare 18 = .ok (.bipush 9, 2) := by decide +kernel
theorem dX12_compare_20 : decode cX12_compare 20 = .ok (.iload_n 1, 1) := by decide +kernel
theorem dX12_compare_21 : decode cX12_compare 21 = .ok (.imul, 1) := by decide +kernel
theorem dX12_compare_22 : decode cX12_compare 22 = .ok (.iload_n 2, 1) := by decide +kernel
theorem dX12_compare_23 : decode cX12_compare 23 = .ok (.iadd, 1) := by decide +kernel
theorem dX12_compare_24 : decode cX12_compare 24 = .ok (.iaload, 1) := by decide +kernel
theorem dX12_compare_25 : decode cX12_compare 25 = .ok (.if_icmp .eq 29, 3) := by decide +kernel
theorem dX12_compare_28 : decode cX12_compare 28 = .ok (.aload_n 0, 1) := by decide +kernel
theorem dX12_compare_29 : decode cX12_compare 29 = .ok (.getfield 32, 3) := by decide +kernel
theorem dX12_compare_32 : decode cX12_compare 32 = .ok (.iload_n 2, 1) := by decide +kernel
theorem dX12_compare_33 : decode cX12_compare 33 = .ok (.iaload, 1) := by decide +kernel
theorem dX12_compare_34 : decode cX12_compare 34 = .ok (.aload_n 0, 1) := by decide +kernel
theorem dX12_compare_35 : decode cX12_compare 35 = .ok (.getfield 20, 3) := by decide +kernel
theorem dX12_compare_38 : decode cX12_compare 38 = .ok (.bipush 9, 2) := by decide +kernel
theorem dX12_compare_40 : decode cX12_compare 40 = .ok (.iload_n 1, 1) := by decide +kernel
theorem dX12_compare_41 : decode cX12_compare 41 = .ok (.imul, 1) := by decide +kernel
theorem dX12_compare_42 : decode cX12_compare 42 = .ok (.iload_n 2, 1) := by decide +kernel
theorem dX12_compare_43 : decode cX12_compare 43 = .ok (.iadd, 1) := by decide +kernel
theorem dX12_compare_44 : decode cX12_compare 44 = .ok (.iaload, 1) := by decide +kernel
theorem dX12_compare_45 : decode cX12_compare 45 = .ok (.if_icmp .ge 7, 3) := by decide +kernel
theorem dX12_compare_48 : decode cX12_compare 48 = .ok (.iconst (-1), 1) := by decide +kernel
theorem dX12_compare_49 : decode cX12_compare 49 = .ok (.goto 4, 3) := by decide +kernel
theorem dX12_compare_52 : decode cX12_compare 52 = .ok (.iconst 1, 1) := by decide +kernel
theorem dX12_compare_53 : decode cX12_compare 53 = .ok (.ireturn, 1) := by decide +kernel
theorem dX12_compare_54 : decode cX12_compare 54 = .ok (.iinc 2 1, 3) := by decide +kernel
theorem dX12_compare_57 : decode cX12_compare 57 = .ok (.goto (-55), 3) := by decide +kernel
theorem dX12_compare_60 : decode cX12_compare 60 = .ok (.iconst 0, 1) := by decide +kernel
theorem dX12_compare_61 : decode cX12_compare 61 = .ok (.istore_n 2, 1) := by decide +kernel
theorem dX12_compare_62 : decode cX12_compare 62 = .ok (.iload_n 2, 1) := by decide +kernel
theorem dX12_compare_63 : decode cX12_compare 63 = .ok (.iconst 3, 1) := by decide +kernel
theorem dX12_compare_64 : decode cX12_compare 64 = .ok (.if_icmp .ge 53, 3) := by decide +kernel
theorem dX12_compare_67 : decode cX12_compare 67 = .ok (.aload_n 0, 1) := by decide +kernel
theorem dX12_compare_68 : decode cX12_compare 68 = .ok (.getfield 35, 3) := by decide +kernel
theorem dX12_compare_71 : decode cX12_compare 71 = .ok (.iload_n 2, 1) := by decide +kernel
theorem dX12_compare_72 : decode cX12_compare 72 = .ok (.iaload, 1) := by decide +kernel
theorem dX12_compare_73 : decode cX12_compare 73 = .ok (.aload_n 0, 1) := by decide +kernel
theorem dX12_compare_74 : decode cX12_compare 74 = .ok (.getfield 23, 3) := by decide +kernel
theorem dX12_compare_77 : decode cX12_compare 77 = .ok (.iconst 3, 1) := by decide +kernel
theorem dX12_compare_78 : decode cX12_compare 78 = .ok (.iload_n 1, 1) := by decide +kernel
theorem dX12_compare_79 : decode cX12_compare 79 = .ok (.imul, 1) := by decide +kernel
theorem dX12_compare_80 : decode cX12_compare 80 = .ok (.iload_n 2, 1) := by decide +kernel
theorem dX12_compare_81 : decode cX12_compare 81 = .ok (.iadd, 1) := by decide +kernel
theorem dX12_compare_82 : decode cX12_compare 82 = .ok (.iaload, 1) := by decide +kernel
theorem dX12_compare_83 : decode cX12_compare 83 = .ok (.if_icmp .eq 28, 3) := by decide +kernel
theorem dX12_compare_86 : decode cX12_compare 86 = .ok (.aload_n 0, 1) := by decide +kernel
theorem dX12_compare_87 : decode cX12_compare 87 = .ok (.getfield 35, 3) := by decide +kernel
theorem dX12_compare_90 : decode cX12_compare 90 = .ok (.iload_n 2, 1) := by decide +kernel
theorem dX12_compare_91 : decode cX12_compare 91 = .ok (.iaload, 1) := by decide +kernel
theorem dX12_compare_92 : decode cX12_compare 92 = .ok (.aload_n 0, 1) := by decide +kernel
theorem dX12_compare_93 : decode cX12_compare 93 = .ok (.getfield 23, 3) := by decide +kernel
theorem dX12_compare_96 : decode cX12_compare 96 = .ok (.iconst 3, 1) := by decide +kernel
theorem dX12_compare_97 : decode cX12_compare 97 = .ok (.iload_n 1, 1) := by decide +kernel
theorem dX12_compare_98 : decode cX12_compare 98 = .ok (.imul, 1) := by decide +kernel
theorem dX12_compare_99 : decode cX12_compare 99 = .ok (.iload_n 2, 1) := by decide +kernel
theorem dX12_compare_100 : decode cX12_compare 100 = .ok (.iadd, 1) := by decide +kernel
theorem dX12_compare_101 : decode cX12_compare 101 = .ok (.iaload, 1) := by decide +kernel
theorem dX12_compare_102 : decode cX12_compare 102 = .ok (.if_icmp .ge 7, 3) := by decide +kernel
theorem dX12_compare_105 : decode cX12_compare 105 = .ok (.iconst (-1), 1) := by decide +kernel
theorem dX12_compare_106 : decode cX12_compare 106 = .ok (.goto 4, 3) := by decide +kernel
theorem dX12_compare_109 : decode cX12_compare 109 = .ok (.iconst 1, 1) := by decide +kernel
theorem dX12_compare_110 : decode cX12_compare 110 = .ok (.ireturn, 1) := by decide +kernel
theorem dX12_compare_111 : decode cX12_compare 111 = .ok (.iinc 2 1, 3) := by decide +kernel
theorem dX12_compare_114 : decode cX12_compare 114 = .ok (.goto (-52), 3) := by decide +kernel
theorem dX12_compare_117 : decode cX12_compare 117 = .ok (.iconst 0, 1) := by decide +kernel
theorem dX12_compare_118 : decode cX12_compare 118 = .ok (.ireturn, 1) := by decide +kernel
theorem dX12_isMade_0 : decode cX12_isMade 0 = .ok (.iconst 0, 1) := by decide +kernel
theorem dX12_isMade_1 : decode cX12_isMade 1 = .ok (.istore_n 1, 1) := by decide +kernel
theorem dX12_isMade_2 : decode cX12_isMade 2 = .ok (.iconst 0, 1) := by decide +kernel
theorem dX12_isMade_3 : decode cX12_isMade 3 = .ok (.istore_n 2, 1) := by decide +kernel
theorem dX12_isMade_4 : decode cX12_isMade 4 = .ok (.iload_n 2, 1) := by decide +kernel
theorem dX12_isMade_5 : decode cX12_isMade 5 = .ok (.aload_n 0, 1) := by decide +kernel
theorem dX12_isMade_6 : decode cX12_isMade 6 = .ok (.getfield 168, 3) := by decide +kernel
theorem dX12_isMade_9 : decode cX12_isMade 9 = .ok (.if_icmp .ge 27, 3) := by decide +kernel
theorem dX12_isMade_12 : decode cX12_isMade 12 = .ok (.iload_n 1, 1) := by decide +kernel
theorem dX12_isMade_13 : decode cX12_isMade 13 = .ok (.ifCond .ne 23, 3) := by decide +kernel
theorem dX12_isMade_16 : decode cX12_isMade 16 = .ok (.aload_n 0, 1) := by decide +kernel
theorem dX12_isMade_17 : decode cX12_isMade 17 = .ok (.iload_n 2, 1) := by decide +kernel
theorem dX12_isMade_18 : decode cX12_isMade 18 = .ok (.invokevirtual 171, 3) := by decide +kernel
theorem dX12_isMade_21 : decode cX12_isMade 21 = .ok (.ifCond .ne 7, 3) := by decide +kernel
theorem dX12_isMade_24 : decode cX12_isMade 24 = .ok (.iconst 1, 1) := by decide +kernel
theorem dX12_isMade_25 : decode cX12_isMade 25 = .ok (.goto 4, 3) := by decide +kernel
theorem dX12_isMade_28 : decode cX12_isMade 28 = .ok (.iconst 0, 1) := by decide +kernel
theorem dX12_isMade_29 : decode cX12_isMade 29 = .ok (.istore_n 1, 1) := by decide +kernel
theorem dX12_isMade_30 : decode cX12_isMade 30 = .ok (.iinc 2 1, 3) := by decide +kernel
theorem dX12_isMade_33 : decode cX12_isMade 33 = .ok (.goto (-29), 3) := by decide +kernel
theorem dX12_isMade_36 : decode cX12_isMade 36 = .ok (.iload_n 1, 1) := by decide +kernel
theorem dX12_isMade_37 : decode cX12_isMade 37 = .ok (.ireturn, 1) := by decide +kernel
theorem dX12_putMade_0 : decode cX12_putMade 0 = .ok (.iconst 0, 1) := by decide +kernel
theorem dX12_putMade_1 : decode cX12_putMade 1 = .ok (.istore_n 2, 1) := by decide +kernel
theorem dX12_putMade_2 : decode cX12_putMade 2 = .ok (.iload_n 2, 1) := by decide +kernel
theorem dX12_putMade_3 : decode cX12_putMade 3 = .ok (.bipush 9, 2) := by decide +kernel
theorem dX12_putMade_5 : decode cX12_putMade 5 = .ok (.if_icmp .ge 26, 3) := by decide +kernel
theorem dX12_putMade_8 : decode cX12_putMade 8 = .ok (.aload_n 0, 1) := by decide +kernel
theorem dX12_putMade_9 : decode cX12_putMade 9 = .ok (.getfield 20, 3) := by decide +kernel
theorem dX12_putMade_12 : decode cX12_putMade 12 = .ok (.bipush 9, 2) := by decide +kernel
theorem dX12_putMade_14 : decode cX12_putMade 14 = .ok (.iload_n 1, 1) := by decide +kernel
theorem dX12_putMade_15 : decode cX12_putMade 15 = .ok (.imul, 1) := by decide +kernel
theorem dX12_putMade_16 : decode cX12_putMade 16 = .ok (.iload_n 2, 1) := by decide +kernel
theorem dX12_putMade_17 : decode cX12_putMade 17 = .ok (.iadd, 1) := by decide +kernel
theorem dX12_putMade_18 : decode cX12_putMade 18 = .ok (.aload_n 0, 1) := by decide +kernel
theorem dX12_putMade_19 : decode cX12_putMade 19 = .ok (.getfield 32, 3) := by decide +kernel
theorem dX12_putMade_22 : decode cX12_putMade 22 = .ok (.iload_n 2, 1) := by decide +kernel
theorem dX12_putMade_23 : decode cX12_putMade 23 = .ok (.iaload, 1) := by decide +kernel
theorem dX12_putMade_24 : decode cX12_putMade 24 = .ok (.iastore, 1) := by decide +kernel
theorem dX12_putMade_25 : decode cX12_putMade 25 = .ok (.iinc 2 1, 3) := by decide +kernel
theorem dX12_putMade_28 : decode cX12_putMade 28 = .ok (.goto (-26), 3) := by decide +kernel
theorem dX12_putMade_31 : decode cX12_putMade 31 = .ok (.iconst 0, 1) := by decide +kernel
theorem dX12_putMade_32 : decode cX12_putMade 32 = .ok (.istore_n 2, 1) := by decide +kernel
theorem dX12_putMade_33 : decode cX12_putMade 33 = .ok (.iload_n 2, 1) := by decide +kernel
theorem dX12_putMade_34 : decode cX12_putMade 34 = .ok (.iconst 3, 1) := by decide +kernel
theorem dX12_putMade_35 : decode cX12_putMade 35 = .ok (.if_icmp .ge 25, 3) := by decide +kernel
theorem dX12_putMade_38 : decode cX12_putMade 38 = .ok (.aload_n 0, 1) := by decide +kernel
theorem dX12_putMade_39 : decode cX12_putMade 39 = .ok (.getfield 23, 3) := by decide +kernel
theorem dX12_putMade_42 : decode cX12_putMade 42 = .ok (.iconst 3, 1) := by decide +kernel
theorem dX12_putMade_43 : decode cX12_putMade 43 = .ok (.iload_n 1, 1) := by decide +kernel
theorem dX12_putMade_44 : decode cX12_putMade 44 = .ok (.imul, 1) := by decide +kernel
theorem dX12_putMade_45 : decode cX12_putMade 45 = .ok (.iload_n 2, 1) := by decide +kernel
theorem dX12_putMade_46 : decode cX12_putMade 46 = .ok (.iadd, 1) := by decide +kernel
theorem dX12_putMade_47 : decode cX12_putMade 47 = .ok (.aload_n 0, 1) := by decide +kernel
theorem dX12_putMade_48 : decode cX12_putMade 48 = .ok (.getfield 35, 3) := by decide +kernel
theorem dX12_putMade_51 : decode cX12_putMade 51 = .ok (.iload_n 2, 1) := by decide +kernel
theorem dX12_putMade_52 : decode cX12_putMade 52 = .ok (.iaload, 1) := by decide +kernel
theorem dX12_putMade_53 : decode cX12_putMade 53 = .ok (.iastore, 1) := by decide +kernel
theorem dX12_putMade_54 : decode cX12_putMade 54 = .ok (.iinc 2 1, 3) := by decide +kernel
theorem dX12_putMade_57 : decode cX12_putMade 57 = .ok (.goto (-24), 3) := by decide +kernel
theorem dX12_putMade_60 : decode cX12_putMade 60 = .ok (.return_, 1) := by decide +kernel
theorem dX12_close_0 : decode cX12_close 0 = .ok (.aload_n 0, 1) := by decide +kernel
theorem dX12_close_1 : decode cX12_close 1 = .ok (.iconst 0, 1) := by decide +kernel
theorem dX12_close_2 : decode cX12_close 2 = .ok (.putfield 168, 3) := by decide +kernel
theorem dX12_close_5 : decode cX12_close 5 = .ok (.aload_n 0, 1) := by decide +kernel
theorem dX12_close_6 : decode cX12_close 6 = .ok (.iconst 1, 1) := by decide +kernel
theorem dX12_close_7 : decode cX12_close 7 = .ok (.iconst 0, 1) := by decide +kernel
theorem dX12_close_8 : decode cX12_close 8 = .ok (.iconst 0, 1) := by decide +kernel
theorem dX12_close_9 : decode cX12_close 9 = .ok (.iconst 0, 1) := by decide +kernel
theorem dX12_close_10 : decode cX12_close 10 = .ok (.iconst 1, 1) := by decide +kernel
theorem dX12_close_11 : decode cX12_close 11 = .ok (.iconst 0, 1) := by decide +kernel
theorem dX12_close_12 : decode cX12_close 12 = .ok (.iconst 0, 1) := by decide +kernel
theorem dX12_close_13 : decode cX12_close 13 = .ok (.iconst 0, 1) := by decide +kernel
theorem dX12_close_14 : decode cX12_close 14 = .ok (.iconst 1, 1) := by decide +kernel
theorem dX12_close_15 : decode cX12_close 15 = .ok (.invokevirtual 106, 3) := by decide +kernel
theorem dX12_close_18 : decode cX12_close 18 = .ok (.aload_n 0, 1) := by decide +kernel
theorem dX12_close_19 : decode cX12_close 19 = .ok (.iconst 0, 1) := by decide +kernel
theorem dX12_close_20 : decode cX12_close 20 = .ok (.iconst 0, 1) := by decide +kernel
theorem dX12_close_21 : decode cX12_close 21 = .ok (.iconst 0, 1) := by decide +kernel
theorem dX12_close_22 : decode cX12_close 22 = .ok (.invokevirtual 127, 3) := by decide +kernel
theorem dX12_close_25 : decode cX12_close 25 = .ok (.aload_n 0, 1) := by decide +kernel
theorem dX12_close_26 : decode cX12_close 26 = .ok (.iconst 0, 1) := by decide +kernel
theorem dX12_close_27 : decode cX12_close 27 = .ok (.invokevirtual 174, 3) := by decide +kernel
theorem dX12_close_30 : decode cX12_close 30 = .ok (.aload_n 0, 1) := by decide +kernel
theorem dX12_close_31 : decode cX12_close 31 = .ok (.iconst 1, 1) := by decide +kernel
theorem dX12_close_32 : decode cX12_close 32 = .ok (.putfield 168, 3) := by decide +kernel
theorem dX12_close_35 : decode cX12_close 35 = .ok (.iconst 0, 1) := by decide +kernel
theorem dX12_close_36 : decode cX12_close 36 = .ok (.istore_n 1, 1) := by decide +kernel
theorem dX12_close_37 : decode cX12_close 37 = .ok (.iload_n 1, 1) := by decide +kernel
theorem dX12_close_38 : decode cX12_close 38 = .ok (.aload_n 0, 1) := by decide +kernel
theorem dX12_close_39 : decode cX12_close 39 = .ok (.getfield 168, 3) := by decide +kernel
theorem dX12_close_42 : decode cX12_close 42 = .ok (.if_icmp .ge 68, 3) := by decide +kernel
theorem dX12_close_45 : decode cX12_close 45 = .ok (.iconst 0, 1) := by decide +kernel
theorem dX12_close_46 : decode cX12_close 46 = .ok (.istore_n 2, 1) := by decide +kernel
theorem dX12_close_47 : decode cX12_close 47 = .ok (.iload_n 2, 1) := by decide +kernel
theorem dX12_close_48 : decode cX12_close 48 = .ok (.aload_n 0, 1) := by decide +kernel
theorem dX12_close_49 : decode cX12_close 49 = .ok (.getfield 103, 3) := by decide +kernel
theorem dX12_close_52 : decode cX12_close 52 = .ok (.if_icmp .ge 52, 3) := by decide +kernel
theorem dX12_close_55 : decode cX12_close 55 = .ok (.aload_n 0, 1) := by decide +kernel
theorem dX12_close_56 : decode cX12_close 56 = .ok (.iload_n 1, 1) := by decide +kernel
theorem dX12_close_57 : decode cX12_close 57 = .ok (.iload_n 2, 1) := by decide +kernel
theorem dX12_close_58 : decode cX12_close 58 = .ok (.invokevirtual 177, 3) := by decide +kernel
theorem dX12_close_61 : decode cX12_close 61 = .ok (.aload_n 0, 1) := by decide +kernel
theorem dX12_close_62 : decode cX12_close 62 = .ok (.invokevirtual 180, 3) := by decide +kernel
theorem dX12_close_65 : decode cX12_close 65 = .ok (.ifCond .ne 33, 3) := by decide +kernel
theorem dX12_close_68 : decode cX12_close 68 = .ok (.aload_n 0, 1) := by decide +kernel
theorem dX12_close_69 : decode cX12_close 69 = .ok (.getfield 168, 3) := by decide +kernel
theorem dX12_close_72 : decode cX12_close 72 = .ok (.sipush 192, 3) := by decide +kernel
theorem dX12_close_75 : decode cX12_close 75 = .ok (.if_icmp .ne 5, 3) := by decide +kernel
theorem dX12_close_78 : decode cX12_close 78 = .ok (.iconst 0, 1) := by decide +kernel
theorem dX12_close_79 : decode cX12_close 79 = .ok (.ireturn, 1) := by decide +kernel
theorem dX12_close_80 : decode cX12_close 80 = .ok (.aload_n 0, 1) := by decide +kernel
theorem dX12_close_81 : decode cX12_close 81 = .ok (.aload_n 0, 1) := by decide +kernel
theorem dX12_close_82 : decode cX12_close 82 = .ok (.getfield 168, 3) := by decide +kernel
theorem dX12_close_85 : decode cX12_close 85 = .ok (.invokevirtual 174, 3) := by decide +kernel
theorem dX12_close_88 : decode cX12_close 88 = .ok (.aload_n 0, 1) := by decide +kernel
theorem dX12_close_89 : decode cX12_close 89 = .ok (.dup, 1) := by decide +kernel
theorem dX12_close_90 : decode cX12_close 90 = .ok (.getfield 168, 3) := by decide +kernel
theorem dX12_close_93 : decode cX12_close 93 = .ok (.iconst 1, 1) := by decide +kernel
theorem dX12_close_94 : decode cX12_close 94 = .ok (.iadd, 1) := by decide +kernel
theorem dX12_close_95 : decode cX12_close 95 = .ok (.putfield 168, 3) := by decide +kernel
theorem dX12_close_98 : decode cX12_close 98 = .ok (.iinc 2 1, 3) := by decide +kernel
theorem dX12_close_101 : decode cX12_close 101 = .ok (.goto (-54), 3) := by decide +kernel
theorem dX12_close_104 : decode cX12_close 104 = .ok (.iinc 1 1, 3) := by decide +kernel
theorem dX12_close_107 : decode cX12_close 107 = .ok (.goto (-70), 3) := by decide +kernel
theorem dX12_close_110 : decode cX12_close 110 = .ok (.iconst 1, 1) := by decide +kernel
theorem dX12_close_111 : decode cX12_close 111 = .ok (.ireturn, 1) := by decide +kernel
theorem dX12_keep_0 : decode cX12_keep 0 = .ok (.iconst 0, 1) := by decide +kernel
theorem dX12_keep_1 : decode cX12_keep 1 = .ok (.istore_n 1, 1) := by decide +kernel
theorem dX12_keep_2 : decode cX12_keep 2 = .ok (.iload_n 1, 1) := by decide +kernel
theorem dX12_keep_3 : decode cX12_keep 3 = .ok (.aload_n 0, 1) := by decide +kernel
theorem dX12_keep_4 : decode cX12_keep 4 = .ok (.getfield 168, 3) := by decide +kernel
theorem dX12_keep_7 : decode cX12_keep 7 = .ok (.if_icmp .ge 163, 3) := by decide +kernel
theorem dX12_keep_10 : decode cX12_keep 10 = .ok (.iconst 0, 1) := by decide +kernel
theorem dX12_keep_11 : decode cX12_keep 11 = .ok (.istore_n 2, 1) := by decide +kernel
theorem dX12_keep_12 : decode cX12_keep 12 = .ok (.iload_n 2, 1) := by decide +kernel
theorem dX12_keep_13 : decode cX12_keep 13 = .ok (.bipush 9, 2) := by decide +kernel
theorem dX12_keep_15 : decode cX12_keep 15 = .ok (.if_icmp .ge 26, 3) := by decide +kernel
theorem dX12_keep_18 : decode cX12_keep 18 = .ok (.aload_n 0, 1) := by decide +kernel
theorem dX12_keep_19 : decode cX12_keep 19 = .ok (.getfield 32, 3) := by decide +kernel
theorem dX12_keep_22 : decode cX12_keep 22 = .ok (.iload_n 2, 1) := by decide +kernel
theorem dX12_keep_23 : decode cX12_keep 23 = .ok (.aload_n 0, 1) := by decide +kernel
theorem dX12_keep_24 : decode cX12_keep 24 = .ok (.getfield 20, 3) := by decide +kernel
theorem dX12_keep_27 : decode cX12_keep 27 = .ok (.bipush 9, 2) := by decide +kernel
theorem dX12_keep_29 : decode cX12_keep 29 = .ok (.iload_n 1, 1) := by decide +kernel
theorem dX12_keep_30 : decode cX12_keep 30 = .ok (.imul, 1) := by decide +kernel
theorem dX12_keep_31 : decode cX12_keep 31 = .ok (.iload_n 2, 1) := by decide +kernel
theorem dX12_keep_32 : decode cX12_keep 32 = .ok (.iadd, 1) := by decide +kernel
theorem dX12_keep_33 : decode cX12_keep 33 = .ok (.iaload, 1) := by decide +kernel
theorem dX12_keep_34 : decode cX12_keep 34 = .ok (.iastore, 1) := by decide +kernel
theorem dX12_keep_35 : decode cX12_keep 35 = .ok (.iinc 2 1, 3) := by decide +kernel
theorem dX12_keep_38 : decode cX12_keep 38 = .ok (.goto (-26), 3) := by decide +kernel
theorem dX12_keep_41 : decode cX12_keep 41 = .ok (.iconst 0, 1) := by decide +kernel
theorem dX12_keep_42 : decode cX12_keep 42 = .ok (.istore_n 2, 1) := by decide +kernel
theorem dX12_keep_43 : decode cX12_keep 43 = .ok (.iload_n 2, 1) := by decide +kernel
theorem dX12_keep_44 : decode cX12_keep 44 = .ok (.iconst 3, 1) := by decide +kernel
theorem dX12_keep_45 : decode cX12_keep 45 = .ok (.if_icmp .ge 25, 3) := by decide +kernel
theorem dX12_keep_48 : decode cX12_keep 48 = .ok (.aload_n 0, 1) := by decide +kernel
theorem dX12_keep_49 : decode cX12_keep 49 = .ok (.getfield 35, 3) := by decide +kernel
theorem dX12_keep_52 : decode cX12_keep 52 = .ok (.iload_n 2, 1) := by decide +kernel
theorem dX12_keep_53 : decode cX12_keep 53 = .ok (.aload_n 0, 1) := by decide +kernel
theorem dX12_keep_54 : decode cX12_keep 54 = .ok (.getfield 23, 3) := by decide +kernel
theorem dX12_keep_57 : decode cX12_keep 57 = .ok (.iconst 3, 1) := by decide +kernel
theorem dX12_keep_58 : decode cX12_keep 58 = .ok (.iload_n 1, 1) := by decide +kernel
theorem dX12_keep_59 : decode cX12_keep 59 = .ok (.imul, 1) := by decide +kernel
theorem dX12_keep_60 : decode cX12_keep 60 = .ok (.iload_n 2, 1) := by decide +kernel
theorem dX12_keep_61 : decode cX12_keep 61 = .ok (.iadd, 1) := by decide +kernel
theorem dX12_keep_62 : decode cX12_keep 62 = .ok (.iaload, 1) := by decide +kernel
theorem dX12_keep_63 : decode cX12_keep 63 = .ok (.iastore, 1) := by decide +kernel
theorem dX12_keep_64 : decode cX12_keep 64 = .ok (.iinc 2 1, 3) := by decide +kernel
theorem dX12_keep_67 : decode cX12_keep 67 = .ok (.goto (-24), 3) := by decide +kernel
theorem dX12_keep_70 : decode cX12_keep 70 = .ok (.iconst 0, 1) := by decide +kernel
theorem dX12_keep_71 : decode cX12_keep 71 = .ok (.istore_n 2, 1) := by decide +kernel
theorem dX12_keep_72 : decode cX12_keep 72 = .ok (.iconst 0, 1) := by decide +kernel
theorem dX12_keep_73 : decode cX12_keep 73 = .ok (.istore_n 3, 1) := by decide +kernel
theorem dX12_keep_74 : decode cX12_keep 74 = .ok (.iload_n 3, 1) := by decide +kernel
theorem dX12_keep_75 : decode cX12_keep 75 = .ok (.aload_n 0, 1) := by decide +kernel
theorem dX12_keep_76 : decode cX12_keep 76 = .ok (.getfield 168, 3) := by decide +kernel
theorem dX12_keep_79 : decode cX12_keep 79 = .ok (.if_icmp .ge 25, 3) := by decide +kernel
theorem dX12_keep_82 : decode cX12_keep 82 = .ok (.aload_n 0, 1) := by decide +kernel
theorem dX12_keep_83 : decode cX12_keep 83 = .ok (.iload_n 3, 1) := by decide +kernel
theorem dX12_keep_84 : decode cX12_keep 84 = .ok (.invokevirtual 171, 3) := by decide +kernel
theorem dX12_keep_87 : decode cX12_keep 87 = .ok (.ifCond .le 9, 3) := by decide +kernel
theorem dX12_keep_90 : decode cX12_keep 90 = .ok (.iload_n 2, 1) := by decide +kernel
theorem dX12_keep_91 : decode cX12_keep 91 = .ok (.iconst 1, 1) := by decide +kernel
theorem dX12_keep_92 : decode cX12_keep 92 = .ok (.iadd, 1) := by decide +kernel
theorem dX12_keep_93 : decode cX12_keep 93 = .ok (.goto 4, 3) := by decide +kernel
theorem dX12_keep_96 : decode cX12_keep 96 = .ok (.iload_n 2, 1) := by decide +kernel
theorem dX12_keep_97 : decode cX12_keep 97 = .ok (.istore_n 2, 1) := by decide +kernel
theorem dX12_keep_98 : decode cX12_keep 98 = .ok (.iinc 3 1, 3) := by decide +kernel
theorem dX12_keep_101 : decode cX12_keep 101 = .ok (.goto (-27), 3) := by decide +kernel
theorem dX12_keep_104 : decode cX12_keep 104 = .ok (.iconst 0, 1) := by decide +kernel
theorem dX12_keep_105 : decode cX12_keep 105 = .ok (.istore_n 3, 1) := by decide +kernel
theorem dX12_keep_106 : decode cX12_keep 106 = .ok (.iload_n 3, 1) := by decide +kernel
theorem dX12_keep_107 : decode cX12_keep 107 = .ok (.bipush 9, 2) := by decide +kernel
theorem dX12_keep_109 : decode cX12_keep 109 = .ok (.if_icmp .ge 26, 3) := by decide +kernel
theorem dX12_keep_112 : decode cX12_keep 112 = .ok (.aload_n 0, 1) := by decide +kernel
theorem dX12_keep_113 : decode cX12_keep 113 = .ok (.getfield 13, 3) := by decide +kernel
theorem dX12_keep_116 : decode cX12_keep 116 = .ok (.bipush 9, 2) := by decide +kernel
theorem dX12_keep_118 : decode cX12_keep 118 = .ok (.iload_n 2, 1) := by decide +kernel
theorem dX12_keep_119 : decode cX12_keep 119 = .ok (.imul, 1) := by decide +kernel
theorem dX12_keep_120 : decode cX12_keep 120 = .ok (.iload_n 3, 1) := by decide +kernel
theorem dX12_keep_121 : decode cX12_keep 121 = .ok (.iadd, 1) := by decide +kernel
theorem dX12_keep_122 : decode cX12_keep 122 = .ok (.aload_n 0, 1) := by decide +kernel
theorem dX12_keep_123 : decode cX12_keep 123 = .ok (.getfield 32, 3) := by decide +kernel
theorem dX12_keep_126 : decode cX12_keep 126 = .ok (.iload_n 3, 1) := by decide +kernel
theorem dX12_keep_127 : decode cX12_keep 127 = .ok (.iaload, 1) := by decide +kernel
theorem dX12_keep_128 : decode cX12_keep 128 = .ok (.iastore, 1) := by decide +kernel
theorem dX12_keep_129 : decode cX12_keep 129 = .ok (.iinc 3 1, 3) := by decide +kernel
theorem dX12_keep_132 : decode cX12_keep 132 = .ok (.goto (-26), 3) := by decide +kernel
theorem dX12_keep_135 : decode cX12_keep 135 = .ok (.iconst 0, 1) := by decide +kernel
theorem dX12_keep_136 : decode cX12_keep 136 = .ok (.istore_n 3, 1) := by decide +kernel
theorem dX12_keep_137 : decode cX12_keep 137 = .ok (.iload_n 3, 1) := by decide +kernel
theorem dX12_keep_138 : decode cX12_keep 138 = .ok (.iconst 3, 1) := by decide +kernel
theorem dX12_keep_139 : decode cX12_keep 139 = .ok (.if_icmp .ge 25, 3) := by decide +kernel
theorem dX12_keep_142 : decode cX12_keep 142 = .ok (.aload_n 0, 1) := by decide +kernel
theorem dX12_keep_143 : decode cX12_keep 143 = .ok (.getfield 17, 3) := by decide +kernel
theorem dX12_keep_146 : decode cX12_keep 146 = .ok (.iconst 3, 1) := by decide +kernel
theorem dX12_keep_147 : decode cX12_keep 147 = .ok (.iload_n 2, 1) := by decide +kernel
theorem dX12_keep_148 : decode cX12_keep 148 = .ok (.imul, 1) := by decide +kernel
theorem dX12_keep_149 : decode cX12_keep 149 = .ok (.iload_n 3, 1) := by decide +kernel
theorem dX12_keep_150 : decode cX12_keep 150 = .ok (.iadd, 1) := by decide +kernel
theorem dX12_keep_151 : decode cX12_keep 151 = .ok (.aload_n 0, 1) := by decide +kernel
theorem dX12_keep_152 : decode cX12_keep 152 = .ok (.getfield 35, 3) := by decide +kernel
theorem dX12_keep_155 : decode cX12_keep 155 = .ok (.iload_n 3, 1) := by decide +kernel
theorem dX12_keep_156 : decode cX12_keep 156 = .ok (.iaload, 1) := by decide +kernel
theorem dX12_keep_157 : decode cX12_keep 157 = .ok (.iastore, 1) := by decide +kernel
theorem dX12_keep_158 : decode cX12_keep 158 = .ok (.iinc 3 1, 3) := by decide +kernel
theorem dX12_keep_161 : decode cX12_keep 161 = .ok (.goto (-24), 3) := by decide +kernel
theorem dX12_keep_164 : decode cX12_keep 164 = .ok (.iinc 1 1, 3) := by decide +kernel
theorem dX12_keep_167 : decode cX12_keep 167 = .ok (.goto (-165), 3) := by decide +kernel
theorem dX12_keep_170 : decode cX12_keep 170 = .ok (.aload_n 0, 1) := by decide +kernel
theorem dX12_keep_171 : decode cX12_keep 171 = .ok (.aload_n 0, 1) := by decide +kernel
theorem dX12_keep_172 : decode cX12_keep 172 = .ok (.getfield 168, 3) := by decide +kernel
theorem dX12_keep_175 : decode cX12_keep 175 = .ok (.putfield 183, 3) := by decide +kernel
theorem dX12_keep_178 : decode cX12_keep 178 = .ok (.return_, 1) := by decide +kernel
theorem dX12_symbol_0 : decode cX12_symbol 0 = .ok (.aload_n 0, 1) := by decide +kernel
theorem dX12_symbol_1 : decode cX12_symbol 1 = .ok (.iconst 0, 1) := by decide +kernel
theorem dX12_symbol_2 : decode cX12_symbol 2 = .ok (.putfield 85, 3) := by decide +kernel
theorem dX12_symbol_5 : decode cX12_symbol 5 = .ok (.aload_n 0, 1) := by decide +kernel
theorem dX12_symbol_6 : decode cX12_symbol 6 = .ok (.invokevirtual 186, 3) := by decide +kernel
theorem dX12_symbol_9 : decode cX12_symbol 9 = .ok (.istore_n 1, 1) := by decide +kernel
theorem dX12_symbol_10 : decode cX12_symbol 10 = .ok (.aload_n 0, 1) := by decide +kernel
theorem dX12_symbol_11 : decode cX12_symbol 11 = .ok (.getfield 100, 3) := by decide +kernel
theorem dX12_symbol_14 : decode cX12_symbol 14 = .ok (.istore_n 2, 1) := by decide +kernel
theorem dX12_symbol_15 : decode cX12_symbol 15 = .ok (.aload_n 0, 1) := by decide +kernel
theorem dX12_symbol_16 : decode cX12_symbol 16 = .ok (.iconst 0, 1) := by decide +kernel
theorem dX12_symbol_17 : decode cX12_symbol 17 = .ok (.putfield 89, 3) := by decide +kernel
theorem dX12_symbol_20 : decode cX12_symbol 20 = .ok (.iload_n 1, 1) := by decide +kernel
theorem dX12_symbol_21 : decode cX12_symbol 21 = .ok (.ifCond .ne 7, 3) := by decide +kernel
theorem dX12_symbol_24 : decode cX12_symbol 24 = .ok (.iconst (-1), 1) := by decide +kernel
theorem dX12_symbol_25 : decode cX12_symbol 25 = .ok (.iload_n 2, 1) := by decide +kernel
theorem dX12_symbol_26 : decode cX12_symbol 26 = .ok (.isub, 1) := by decide +kernel
theorem dX12_symbol_27 : decode cX12_symbol 27 = .ok (.ireturn, 1) := by decide +kernel
theorem dX12_symbol_28 : decode cX12_symbol 28 = .ok (.aload_n 0, 1) := by decide +kernel
theorem dX12_symbol_29 : decode cX12_symbol 29 = .ok (.invokevirtual 189, 3) := by decide +kernel
theorem dX12_symbol_32 : decode cX12_symbol 32 = .ok (.ifCond .ne 7, 3) := by decide +kernel
theorem dX12_symbol_35 : decode cX12_symbol 35 = .ok (.sipush (-9001), 3) := by decide +kernel
theorem dX12_symbol_38 : decode cX12_symbol 38 = .ok (.ireturn, 1) := by decide +kernel
theorem dX12_symbol_39 : decode cX12_symbol 39 = .ok (.aload_n 0, 1) := by decide +kernel
theorem dX12_symbol_40 : decode cX12_symbol 40 = .ok (.invokevirtual 192, 3) := by decide +kernel
theorem dX12_symbol_43 : decode cX12_symbol 43 = .ok (.aload_n 0, 1) := by decide +kernel
theorem dX12_symbol_44 : decode cX12_symbol 44 = .ok (.iconst 0, 1) := by decide +kernel
theorem dX12_symbol_45 : decode cX12_symbol 45 = .ok (.putfield 195, 3) := by decide +kernel
theorem dX12_symbol_48 : decode cX12_symbol 48 = .ok (.iconst 0, 1) := by decide +kernel
theorem dX12_symbol_49 : decode cX12_symbol 49 = .ok (.ireturn, 1) := by decide +kernel
theorem dX12_order_0 : decode cX12_order 0 = .ok (.aload_n 0, 1) := by decide +kernel
theorem dX12_order_1 : decode cX12_order 1 = .ok (.iconst 0, 1) := by decide +kernel
theorem dX12_order_2 : decode cX12_order 2 = .ok (.putfield 85, 3) := by decide +kernel
theorem dX12_order_5 : decode cX12_order 5 = .ok (.aload_n 0, 1) := by decide +kernel
theorem dX12_order_6 : decode cX12_order 6 = .ok (.getfield 183, 3) := by decide +kernel
theorem dX12_order_9 : decode cX12_order 9 = .ok (.ireturn, 1) := by decide +kernel
theorem dX12_op_0 : decode cX12_op 0 = .ok (.aload_n 0, 1) := by decide +kernel
theorem dX12_op_1 : decode cX12_op 1 = .ok (.iload_n 1, 1) := by decide +kernel
theorem dX12_op_2 : decode cX12_op 2 = .ok (.iconst 0, 1) := by decide +kernel
theorem dX12_op_3 : decode cX12_op 3 = .ok (.aload_n 0, 1) := by decide +kernel
theorem dX12_op_4 : decode cX12_op 4 = .ok (.getfield 183, 3) := by decide +kernel
theorem dX12_op_7 : decode cX12_op 7 = .ok (.iconst 1, 1) := by decide +kernel
theorem dX12_op_8 : decode cX12_op 8 = .ok (.isub, 1) := by decide +kernel
theorem dX12_op_9 : decode cX12_op 9 = .ok (.invokestatic 96, 3) := by decide +kernel
theorem dX12_op_12 : decode cX12_op 12 = .ok (.ifCond .eq 17, 3) := by decide +kernel
theorem dX12_op_15 : decode cX12_op 15 = .ok (.iload_n 2, 1) := by decide +kernel
theorem dX12_op_16 : decode cX12_op 16 = .ok (.iconst 0, 1) := by decide +kernel
theorem dX12_op_17 : decode cX12_op 17 = .ok (.bipush 11, 2) := by decide +kernel
theorem dX12_op_19 : decode cX12_op 19 = .ok (.invokestatic 96, 3) := by decide +kernel
theorem dX12_op_22 : decode cX12_op 22 = .ok (.ifCond .eq 7, 3) := by decide +kernel
theorem dX12_op_25 : decode cX12_op 25 = .ok (.iconst 1, 1) := by decide +kernel
theorem dX12_op_26 : decode cX12_op 26 = .ok (.goto 4, 3) := by decide +kernel
theorem dX12_op_29 : decode cX12_op 29 = .ok (.iconst 0, 1) := by decide +kernel
theorem dX12_op_30 : decode cX12_op 30 = .ok (.invokevirtual 92, 3) := by decide +kernel
theorem dX12_op_33 : decode cX12_op 33 = .ok (.ifCond .ne 5, 3) := by decide +kernel
theorem dX12_op_36 : decode cX12_op 36 = .ok (.iconst 0, 1) := by decide +kernel
theorem dX12_op_37 : decode cX12_op 37 = .ok (.ireturn, 1) := by decide +kernel
theorem dX12_op_38 : decode cX12_op 38 = .ok (.iload_n 2, 1) := by decide +kernel
theorem dX12_op_39 : decode cX12_op 39 = .ok (.bipush 9, 2) := by decide +kernel
theorem dX12_op_41 : decode cX12_op 41 = .ok (.if_icmp .ge 17, 3) := by decide +kernel
theorem dX12_op_44 : decode cX12_op 44 = .ok (.aload_n 0, 1) := by decide +kernel
theorem dX12_op_45 : decode cX12_op 45 = .ok (.getfield 13, 3) := by decide +kernel
theorem dX12_op_48 : decode cX12_op 48 = .ok (.bipush 9, 2) := by decide +kernel
theorem dX12_op_50 : decode cX12_op 50 = .ok (.iload_n 1, 1) := by decide +kernel
theorem dX12_op_51 : decode cX12_op 51 = .ok (.imul, 1) := by decide +kernel
theorem dX12_op_52 : decode cX12_op 52 = .ok (.iload_n 2, 1) := by decide +kernel
theorem dX12_op_53 : decode cX12_op 53 = .ok (.iadd, 1) := by decide +kernel
theorem dX12_op_54 : decode cX12_op 54 = .ok (.iaload, 1) := by decide +kernel
theorem dX12_op_55 : decode cX12_op 55 = .ok (.goto 16, 3) := by decide +kernel
theorem dX12_op_58 : decode cX12_op 58 = .ok (.aload_n 0, 1) := by decide +kernel
theorem dX12_op_59 : decode cX12_op 59 = .ok (.getfield 17, 3) := by decide +kernel
theorem dX12_op_62 : decode cX12_op 62 = .ok (.iconst 3, 1) := by decide +kernel
theorem dX12_op_63 : decode cX12_op 63 = .ok (.iload_n 1, 1) := by decide +kernel
theorem dX12_op_64 : decode cX12_op 64 = .ok (.imul, 1) := by decide +kernel
theorem dX12_op_65 : decode cX12_op 65 = .ok (.iload_n 2, 1) := by decide +kernel
theorem dX12_op_66 : decode cX12_op 66 = .ok (.iadd, 1) := by decide +kernel
theorem dX12_op_67 : decode cX12_op 67 = .ok (.bipush 9, 2) := by decide +kernel
theorem dX12_op_69 : decode cX12_op 69 = .ok (.isub, 1) := by decide +kernel
theorem dX12_op_70 : decode cX12_op 70 = .ok (.iaload, 1) := by decide +kernel
theorem dX12_op_71 : decode cX12_op 71 = .ok (.ireturn, 1) := by decide +kernel
theorem dX12_determinant_0 : decode cX12_determinant 0 = .ok (.bipush 9, 2) := by decide +kernel
theorem dX12_determinant_2 : decode cX12_determinant 2 = .ok (.iload_n 1, 1) := by decide +kernel
theorem dX12_determinant_3 : decode cX12_determinant 3 = .ok (.imul, 1) := by decide +kernel
theorem dX12_determinant_4 : decode cX12_determinant 4 = .ok (.istore_n 2, 1) := by decide +kernel
theorem dX12_determinant_5 : decode cX12_determinant 5 = .ok (.aload_n 0, 1) := by decide +kernel
theorem dX12_determinant_6 : decode cX12_determinant 6 = .ok (.getfield 13, 3) := by decide +kernel
theorem dX12_determinant_9 : decode cX12_determinant 9 = .ok (.iload_n 2, 1) := by decide +kernel
theorem dX12_determinant_10 : decode cX12_determinant 10 = .ok (.iaload, 1) := by decide +kernel
theorem dX12_determinant_11 : decode cX12_determinant 11 = .ok (.aload_n 0, 1) := by decide +kernel
theorem dX12_determinant_12 : decode cX12_determinant 12 = .ok (.getfield 13, 3) := by decide +kernel
theorem dX12_determinant_15 : decode cX12_determinant 15 = .ok (.iload_n 2, 1) := by decide +kernel
theorem dX12_determinant_16 : decode cX12_determinant 16 = .ok (.iconst 4, 1) := by decide +kernel
theorem dX12_determinant_17 : decode cX12_determinant 17 = .ok (.iadd, 1) := by decide +kernel
theorem dX12_determinant_18 : decode cX12_determinant 18 = .ok (.iaload, 1) := by decide +kernel
theorem dX12_determinant_19 : decode cX12_determinant 19 = .ok (.aload_n 0, 1) := by decide +kernel
theorem dX12_determinant_20 : decode cX12_determinant 20 = .ok (.getfield 13, 3) := by decide +kernel
theorem dX12_determinant_23 : decode cX12_determinant 23 = .ok (.iload_n 2, 1) := by decide +kernel
theorem dX12_determinant_24 : decode cX12_determinant 24 = .ok (.bipush 8, 2) := by decide +kernel
theorem dX12_determinant_26 : decode cX12_determinant 26 = .ok (.iadd, 1) := by decide +kernel
theorem dX12_determinant_27 : decode cX12_determinant 27 = .ok (.iaload, 1) := by decide +kernel
theorem dX12_determinant_28 : decode cX12_determinant 28 = .ok (.imul, 1) := by decide +kernel
theorem dX12_determinant_29 : decode cX12_determinant 29 = .ok (.aload_n 0, 1) := by decide +kernel
theorem dX12_determinant_30 : decode cX12_determinant 30 = .ok (.getfield 13, 3) := by decide +kernel
theorem dX12_determinant_33 : decode cX12_determinant 33 = .ok (.iload_n 2, 1) := by decide +kernel
theorem dX12_determinant_34 : decode cX12_determinant 34 = .ok (.iconst 5, 1) := by decide +kernel
theorem dX12_determinant_35 : decode cX12_determinant 35 = .ok (.iadd, 1) := by decide +kernel
theorem dX12_determinant_36 : decode cX12_determinant 36 = .ok (.iaload, 1) := by decide +kernel
theorem dX12_determinant_37 : decode cX12_determinant 37 = .ok (.aload_n 0, 1) := by decide +kernel
theorem dX12_determinant_38 : decode cX12_determinant 38 = .ok (.getfield 13, 3) := by decide +kernel
theorem dX12_determinant_41 : decode cX12_determinant 41 = .ok (.iload_n 2, 1) := by decide +kernel
theorem dX12_determinant_42 : decode cX12_determinant 42 = .ok (.bipush 7, 2) := by decide +kernel
theorem dX12_determinant_44 : decode cX12_determinant 44 = .ok (.iadd, 1) := by decide +kernel
theorem dX12_determinant_45 : decode cX12_determinant 45 = .ok (.iaload, 1) := by decide +kernel
theorem dX12_determinant_46 : decode cX12_determinant 46 = .ok (.imul, 1) := by decide +kernel
theorem dX12_determinant_47 : decode cX12_determinant 47 = .ok (.isub, 1) := by decide +kernel
theorem dX12_determinant_48 : decode cX12_determinant 48 = .ok (.imul, 1) := by decide +kernel
theorem dX12_determinant_49 : decode cX12_determinant 49 = .ok (.istore_n 3, 1) := by decide +kernel
theorem dX12_determinant_50 : decode cX12_determinant 50 = .ok (.aload_n 0, 1) := by decide +kernel
theorem dX12_determinant_51 : decode cX12_determinant 51 = .ok (.getfield 13, 3) := by decide +kernel
theorem dX12_determinant_54 : decode cX12_determinant 54 = .ok (.iload_n 2, 1) := by decide +kernel
theorem dX12_determinant_55 : decode cX12_determinant 55 = .ok (.iconst 1, 1) := by decide +kernel
theorem dX12_determinant_56 : decode cX12_determinant 56 = .ok (.iadd, 1) := by decide +kernel
theorem dX12_determinant_57 : decode cX12_determinant 57 = .ok (.iaload, 1) := by decide +kernel
theorem dX12_determinant_58 : decode cX12_determinant 58 = .ok (.aload_n 0, 1) := by decide +kernel
theorem dX12_determinant_59 : decode cX12_determinant 59 = .ok (.getfield 13, 3) := by decide +kernel
theorem dX12_determinant_62 : decode cX12_determinant 62 = .ok (.iload_n 2, 1) := by decide +kernel
theorem dX12_determinant_63 : decode cX12_determinant 63 = .ok (.iconst 3, 1) := by decide +kernel
theorem dX12_determinant_64 : decode cX12_determinant 64 = .ok (.iadd, 1) := by decide +kernel
theorem dX12_determinant_65 : decode cX12_determinant 65 = .ok (.iaload, 1) := by decide +kernel
theorem dX12_determinant_66 : decode cX12_determinant 66 = .ok (.aload_n 0, 1) := by decide +kernel
theorem dX12_determinant_67 : decode cX12_determinant 67 = .ok (.getfield 13, 3) := by decide +kernel
theorem dX12_determinant_70 : decode cX12_determinant 70 = .ok (.iload_n 2, 1) := by decide +kernel
theorem dX12_determinant_71 : decode cX12_determinant 71 = .ok (.bipush 8, 2) := by decide +kernel
theorem dX12_determinant_73 : decode cX12_determinant 73 = .ok (.iadd, 1) := by decide +kernel
theorem dX12_determinant_74 : decode cX12_determinant 74 = .ok (.iaload, 1) := by decide +kernel
theorem dX12_determinant_75 : decode cX12_determinant 75 = .ok (.imul, 1) := by decide +kernel
theorem dX12_determinant_76 : decode cX12_determinant 76 = .ok (.aload_n 0, 1) := by decide +kernel
theorem dX12_determinant_77 : decode cX12_determinant 77 = .ok (.getfield 13, 3) := by decide +kernel
theorem dX12_determinant_80 : decode cX12_determinant 80 = .ok (.iload_n 2, 1) := by decide +kernel
theorem dX12_determinant_81 : decode cX12_determinant 81 = .ok (.iconst 5, 1) := by decide +kernel
theorem dX12_determinant_82 : decode cX12_determinant 82 = .ok (.iadd, 1) := by decide +kernel
theorem dX12_determinant_83 : decode cX12_determinant 83 = .ok (.iaload, 1) := by decide +kernel
theorem dX12_determinant_84 : decode cX12_determinant 84 = .ok (.aload_n 0, 1) := by decide +kernel
theorem dX12_determinant_85 : decode cX12_determinant 85 = .ok (.getfield 13, 3) := by decide +kernel
theorem dX12_determinant_88 : decode cX12_determinant 88 = .ok (.iload_n 2, 1) := by decide +kernel
theorem dX12_determinant_89 : decode cX12_determinant 89 = .ok (.bipush 6, 2) := by decide +kernel
theorem dX12_determinant_91 : decode cX12_determinant 91 = .ok (.iadd, 1) := by decide +kernel
theorem dX12_determinant_92 : decode cX12_determinant 92 = .ok (.iaload, 1) := by decide +kernel
theorem dX12_determinant_93 : decode cX12_determinant 93 = .ok (.imul, 1) := by decide +kernel
theorem dX12_determinant_94 : decode cX12_determinant 94 = .ok (.isub, 1) := by decide +kernel
theorem dX12_determinant_95 : decode cX12_determinant 95 = .ok (.imul, 1) := by decide +kernel
theorem dX12_determinant_96 : decode cX12_determinant 96 = .ok (.istore 4, 2) := by decide +kernel
theorem dX12_determinant_98 : decode cX12_determinant 98 = .ok (.aload_n 0, 1) := by decide +kernel
theorem dX12_determinant_99 : decode cX12_determinant 99 = .ok (.getfield 13, 3) := by decide +kernel
theorem dX12_determinant_102 : decode cX12_determinant 102 = .ok (.iload_n 2, 1) := by decide +kernel
theorem dX12_determinant_103 : decode cX12_determinant 103 = .ok (.iconst 2, 1) := by decide +kernel
theorem dX12_determinant_104 : decode cX12_determinant 104 = .ok (.iadd, 1) := by decide +kernel
theorem dX12_determinant_105 : decode cX12_determinant 105 = .ok (.iaload, 1) := by decide +kernel
theorem dX12_determinant_106 : decode cX12_determinant 106 = .ok (.aload_n 0, 1) := by decide +kernel
theorem dX12_determinant_107 : decode cX12_determinant 107 = .ok (.getfield 13, 3) := by decide +kernel
theorem dX12_determinant_110 : decode cX12_determinant 110 = .ok (.iload_n 2, 1) := by decide +kernel
theorem dX12_determinant_111 : decode cX12_determinant 111 = .ok (.iconst 3, 1) := by decide +kernel
theorem dX12_determinant_112 : decode cX12_determinant 112 = .ok (.iadd, 1) := by decide +kernel
theorem dX12_determinant_113 : decode cX12_determinant 113 = .ok (.iaload, 1) := by decide +kernel
theorem dX12_determinant_114 : decode cX12_determinant 114 = .ok (.aload_n 0, 1) := by decide +kernel
theorem dX12_determinant_115 : decode cX12_determinant 115 = .ok (.getfield 13, 3) := by decide +kernel
theorem dX12_determinant_118 : decode cX12_determinant 118 = .ok (.iload_n 2, 1) := by decide +kernel
theorem dX12_determinant_119 : decode cX12_determinant 119 = .ok (.bipush 7, 2) := by decide +kernel
theorem dX12_determinant_121 : decode cX12_determinant 121 = .ok (.iadd, 1) := by decide +kernel
theorem dX12_determinant_122 : decode cX12_determinant 122 = .ok (.iaload, 1) := by decide +kernel
theorem dX12_determinant_123 : decode cX12_determinant 123 = .ok (.imul, 1) := by decide +kernel
theorem dX12_determinant_124 : decode cX12_determinant 124 = .ok (.aload_n 0, 1) := by decide +kernel
theorem dX12_determinant_125 : decode cX12_determinant 125 = .ok (.getfield 13, 3) := by decide +kernel
theorem dX12_determinant_128 : decode cX12_determinant 128 = .ok (.iload_n 2, 1) := by decide +kernel
theorem dX12_determinant_129 : decode cX12_determinant 129 = .ok (.iconst 4, 1) := by decide +kernel
theorem dX12_determinant_130 : decode cX12_determinant 130 = .ok (.iadd, 1) := by decide +kernel
theorem dX12_determinant_131 : decode cX12_determinant 131 = .ok (.iaload, 1) := by decide +kernel
theorem dX12_determinant_132 : decode cX12_determinant 132 = .ok (.aload_n 0, 1) := by decide +kernel
theorem dX12_determinant_133 : decode cX12_determinant 133 = .ok (.getfield 13, 3) := by decide +kernel
theorem dX12_determinant_136 : decode cX12_determinant 136 = .ok (.iload_n 2, 1) := by decide +kernel
theorem dX12_determinant_137 : decode cX12_determinant 137 = .ok (.bipush 6, 2) := by decide +kernel
theorem dX12_determinant_139 : decode cX12_determinant 139 = .ok (.iadd, 1) := by decide +kernel
theorem dX12_determinant_140 : decode cX12_determinant 140 = .ok (.iaload, 1) := by decide +kernel
theorem dX12_determinant_141 : decode cX12_determinant 141 = .ok (.imul, 1) := by decide +kernel
theorem dX12_determinant_142 : decode cX12_determinant 142 = .ok (.isub, 1) := by decide +kernel
theorem dX12_determinant_143 : decode cX12_determinant 143 = .ok (.imul, 1) := by decide +kernel
theorem dX12_determinant_144 : decode cX12_determinant 144 = .ok (.istore 5, 2) := by decide +kernel
theorem dX12_determinant_146 : decode cX12_determinant 146 = .ok (.iload_n 3, 1) := by decide +kernel
theorem dX12_determinant_147 : decode cX12_determinant 147 = .ok (.iload 4, 2) := by decide +kernel
theorem dX12_determinant_149 : decode cX12_determinant 149 = .ok (.isub, 1) := by decide +kernel
theorem dX12_determinant_150 : decode cX12_determinant 150 = .ok (.iload 5, 2) := by decide +kernel
theorem dX12_determinant_152 : decode cX12_determinant 152 = .ok (.iadd, 1) := by decide +kernel
theorem dX12_determinant_153 : decode cX12_determinant 153 = .ok (.ireturn, 1) := by decide +kernel
theorem dX12_sameTurn_0 : decode cX12_sameTurn 0 = .ok (.aload_n 0, 1) := by decide +kernel
theorem dX12_sameTurn_1 : decode cX12_sameTurn 1 = .ok (.iload_n 1, 1) := by decide +kernel
theorem dX12_sameTurn_2 : decode cX12_sameTurn 2 = .ok (.invokevirtual 198, 3) := by decide +kernel
theorem dX12_sameTurn_5 : decode cX12_sameTurn 5 = .ok (.aload_n 0, 1) := by decide +kernel
theorem dX12_sameTurn_6 : decode cX12_sameTurn 6 = .ok (.iload_n 2, 1) := by decide +kernel
theorem dX12_sameTurn_7 : decode cX12_sameTurn 7 = .ok (.invokevirtual 198, 3) := by decide +kernel
theorem dX12_sameTurn_10 : decode cX12_sameTurn 10 = .ok (.imul, 1) := by decide +kernel
theorem dX12_sameTurn_11 : decode cX12_sameTurn 11 = .ok (.istore_n 3, 1) := by decide +kernel
theorem dX12_sameTurn_12 : decode cX12_sameTurn 12 = .ok (.iconst 1, 1) := by decide +kernel
theorem dX12_sameTurn_13 : decode cX12_sameTurn 13 = .ok (.istore 4, 2) := by decide +kernel
theorem dX12_sameTurn_15 : decode cX12_sameTurn 15 = .ok (.iconst 0, 1) := by decide +kernel
theorem dX12_sameTurn_16 : decode cX12_sameTurn 16 = .ok (.istore 5, 2) := by decide +kernel
theorem dX12_sameTurn_18 : decode cX12_sameTurn 18 = .ok (.iload 5, 2) := by decide +kernel
theorem dX12_sameTurn_20 : decode cX12_sameTurn 20 = .ok (.bipush 9, 2) := by decide +kernel
theorem dX12_sameTurn_22 : decode cX12_sameTurn 22 = .ok (.if_icmp .ge 50, 3) := by decide +kernel
theorem dX12_sameTurn_25 : decode cX12_sameTurn 25 = .ok (.iload 4, 2) := by decide +kernel
theorem dX12_sameTurn_27 : decode cX12_sameTurn 27 = .ok (.ifCond .eq 36, 3) := by decide +kernel
theorem dX12_sameTurn_30 : decode cX12_sameTurn 30 = .ok (.aload_n 0, 1) := by decide +kernel
theorem dX12_sameTurn_31 : decode cX12_sameTurn 31 = .ok (.getfield 13, 3) := by decide +kernel
theorem dX12_sameTurn_34 : decode cX12_sameTurn 34 = .ok (.bipush 9, 2) := by decide +kernel
theorem dX12_sameTurn_36 : decode cX12_sameTurn 36 = .ok (.iload_n 1, 1) := by decide +kernel
theorem dX12_sameTurn_37 : decode cX12_sameTurn 37 = .ok (.imul, 1) := by decide +kernel
theorem dX12_sameTurn_38 : decode cX12_sameTurn 38 = .ok (.iload 5, 2) := by decide +kernel
theorem dX12_sameTurn_40 : decode cX12_sameTurn 40 = .ok (.iadd, 1) := by decide +kernel
theorem dX12_sameTurn_41 : decode cX12_sameTurn 41 = .ok (.iaload, 1) := by decide +kernel
theorem dX12_sameTurn_42 : decode cX12_sameTurn 42 = .ok (.iload_n 3, 1) := by decide +kernel
theorem dX12_sameTurn_43 : decode cX12_sameTurn 43 = .ok (.aload_n 0, 1) := by decide +kernel
theorem dX12_sameTurn_44 : decode cX12_sameTurn 44 = .ok (.getfield 13, 3) := by decide +kernel
theorem dX12_sameTurn_47 : decode cX12_sameTurn 47 = .ok (.bipush 9, 2) := by decide +kernel
theorem dX12_sameTurn_49 : decode cX12_sameTurn 49 = .ok (.iload_n 2, 1) := by decide +kernel
theorem dX12_sameTurn_50 : decode cX12_sameTurn 50 = .ok (.imul, 1) := by decide +kernel
theorem dX12_sameTurn_51 : decode cX12_sameTurn 51 = .ok (.iload 5, 2) := by decide +kernel
theorem dX12_sameTurn_53 : decode cX12_sameTurn 53 = .ok (.iadd, 1) := by decide +kernel
theorem dX12_sameTurn_54 : decode cX12_sameTurn 54 = .ok (.iaload, 1) := by decide +kernel
theorem dX12_sameTurn_55 : decode cX12_sameTurn 55 = .ok (.imul, 1) := by decide +kernel
theorem dX12_sameTurn_56 : decode cX12_sameTurn 56 = .ok (.if_icmp .ne 7, 3) := by decide +kernel
theorem dX12_sameTurn_59 : decode cX12_sameTurn 59 = .ok (.iconst 1, 1) := by decide +kernel
theorem dX12_sameTurn_60 : decode cX12_sameTurn 60 = .ok (.goto 4, 3) := by decide +kernel
theorem dX12_sameTurn_63 : decode cX12_sameTurn 63 = .ok (.iconst 0, 1) := by decide +kernel
theorem dX12_sameTurn_64 : decode cX12_sameTurn 64 = .ok (.istore 4, 2) := by decide +kernel
theorem dX12_sameTurn_66 : decode cX12_sameTurn 66 = .ok (.iinc 5 1, 3) := by decide +kernel
theorem dX12_sameTurn_69 : decode cX12_sameTurn 69 = .ok (.goto (-51), 3) := by decide +kernel
theorem dX12_sameTurn_72 : decode cX12_sameTurn 72 = .ok (.iload 4, 2) := by decide +kernel
theorem dX12_sameTurn_74 : decode cX12_sameTurn 74 = .ok (.ireturn, 1) := by decide +kernel
theorem dX12_laue_0 : decode cX12_laue 0 = .ok (.aload_n 0, 1) := by decide +kernel
theorem dX12_laue_1 : decode cX12_laue 1 = .ok (.iconst 0, 1) := by decide +kernel
theorem dX12_laue_2 : decode cX12_laue 2 = .ok (.putfield 85, 3) := by decide +kernel
theorem dX12_laue_5 : decode cX12_laue 5 = .ok (.aload_n 0, 1) := by decide +kernel
theorem dX12_laue_6 : decode cX12_laue 6 = .ok (.getfield 183, 3) := by decide +kernel
theorem dX12_laue_9 : decode cX12_laue 9 = .ok (.ifCond .ne 5, 3) := by decide +kernel
theorem dX12_laue_12 : decode cX12_laue 12 = .ok (.iconst (-1), 1) := by decide +kernel
theorem dX12_laue_13 : decode cX12_laue 13 = .ok (.ireturn, 1) := by decide +kernel
theorem dX12_laue_14 : decode cX12_laue 14 = .ok (.iconst 0, 1) := by decide +kernel
theorem dX12_laue_15 : decode cX12_laue 15 = .ok (.istore_n 1, 1) := by decide +kernel
theorem dX12_laue_16 : decode cX12_laue 16 = .ok (.iconst 0, 1) := by decide +kernel
theorem dX12_laue_17 : decode cX12_laue 17 = .ok (.istore_n 2, 1) := by decide +kernel
theorem dX12_laue_18 : decode cX12_laue 18 = .ok (.iconst 0, 1) := by decide +kernel
theorem dX12_laue_19 : decode cX12_laue 19 = .ok (.istore_n 3, 1) := by decide +kernel
theorem dX12_laue_20 : decode cX12_laue 20 = .ok (.iconst 0, 1) := by decide +kernel
theorem dX12_laue_21 : decode cX12_laue 21 = .ok (.istore 4, 2) := by decide +kernel
theorem dX12_laue_23 : decode cX12_laue 23 = .ok (.iload 4, 2) := by decide +kernel
theorem dX12_laue_25 : decode cX12_laue 25 = .ok (.aload_n 0, 1) := by decide +kernel
theorem dX12_laue_26 : decode cX12_laue 26 = .ok (.getfield 183, 3) := by decide +kernel
theorem dX12_laue_29 : decode cX12_laue 29 = .ok (.if_icmp .ge 142, 3) := by decide +kernel
theorem dX12_laue_32 : decode cX12_laue 32 = .ok (.iconst 1, 1) := by decide +kernel
theorem dX12_laue_33 : decode cX12_laue 33 = .ok (.istore 5, 2) := by decide +kernel
theorem dX12_laue_35 : decode cX12_laue 35 = .ok (.iconst 0, 1) := by decide +kernel
theorem dX12_laue_36 : decode cX12_laue 36 = .ok (.istore 6, 2) := by decide +kernel
theorem dX12_laue_38 : decode cX12_laue 38 = .ok (.iload 6, 2) := by decide +kernel
theorem dX12_laue_40 : decode cX12_laue 40 = .ok (.iload 4, 2) := by decide +kernel
theorem dX12_laue_42 : decode cX12_laue 42 = .ok (.if_icmp .ge 32, 3) := by decide +kernel
theorem dX12_laue_45 : decode cX12_laue 45 = .ok (.iload 5, 2) := by decide +kernel
theorem dX12_laue_47 : decode cX12_laue 47 = .ok (.ifCond .eq 18, 3) := by decide +kernel
theorem dX12_laue_50 : decode cX12_laue 50 = .ok (.aload_n 0, 1) := by decide +kernel
theorem dX12_laue_51 : decode cX12_laue 51 = .ok (.iload 4, 2) := by decide +kernel
theorem dX12_laue_53 : decode cX12_laue 53 = .ok (.iload 6, 2) := by decide +kernel
theorem dX12_laue_55 : decode cX12_laue 55 = .ok (.invokevirtual 201, 3) := by decide +kernel
theorem dX12_laue_58 : decode cX12_laue 58 = .ok (.ifCond .ne 7, 3) := by decide +kernel
theorem dX12_laue_61 : decode cX12_laue 61 = .ok (.iconst 1, 1) := by decide +kernel
theorem dX12_laue_62 : decode cX12_laue 62 = .ok (.goto 4, 3) := by decide +kernel
theorem dX12_laue_65 : decode cX12_laue 65 = .ok (.iconst 0, 1) := by decide +kernel
theorem dX12_laue_66 : decode cX12_laue 66 = .ok (.istore 5, 2) := by decide +kernel
theorem dX12_laue_68 : decode cX12_laue 68 = .ok (.iinc 6 1, 3) := by decide +kernel
theorem dX12_laue_71 : decode cX12_laue 71 = .ok (.goto (-33), 3) := by decide +kernel
theorem dX12_laue_74 : decode cX12_laue 74 = .ok (.iload 5, 2) := by decide +kernel
theorem dX12_laue_76 : decode cX12_laue 76 = .ok (.ifCond .eq 9, 3) := by decide +kernel
theorem dX12_laue_79 : decode cX12_laue 79 = .ok (.iload_n 1, 1) := by decide +kernel
theorem dX12_laue_80 : decode cX12_laue 80 = .ok (.iconst 1, 1) := by decide +kernel
theorem dX12_laue_81 : decode cX12_laue 81 = .ok (.iadd, 1) := by decide +kernel
theorem dX12_laue_82 : decode cX12_laue 82 = .ok (.goto 4, 3) := by decide +kernel
theorem dX12_laue_85 : decode cX12_laue 85 = .ok (.iload_n 1, 1) := by decide +kernel
theorem dX12_laue_86 : decode cX12_laue 86 = .ok (.istore_n 1, 1) := by decide +kernel
theorem dX12_laue_87 : decode cX12_laue 87 = .ok (.aload_n 0, 1) := by decide +kernel
theorem dX12_laue_88 : decode cX12_laue 88 = .ok (.iload 4, 2) := by decide +kernel
theorem dX12_laue_90 : decode cX12_laue 90 = .ok (.invokevirtual 198, 3) := by decide +kernel
theorem dX12_laue_93 : decode cX12_laue 93 = .ok (.aload_n 0, 1) := by decide +kernel
theorem dX12_laue_94 : decode cX12_laue 94 = .ok (.getfield 13, 3) := by decide +kernel
theorem dX12_laue_97 : decode cX12_laue 97 = .ok (.bipush 9, 2) := by decide +kernel
theorem dX12_laue_99 : decode cX12_laue 99 = .ok (.iload 4, 2) := by decide +kernel
theorem dX12_laue_101 : decode cX12_laue 101 = .ok (.imul, 1) := by decide +kernel
theorem dX12_laue_102 : decode cX12_laue 102 = .ok (.iaload, 1) := by decide +kernel
theorem dX12_laue_103 : decode cX12_laue 103 = .ok (.aload_n 0, 1) := by decide +kernel
theorem dX12_laue_104 : decode cX12_laue 104 = .ok (.getfield 13, 3) := by decide +kernel
theorem dX12_laue_107 : decode cX12_laue 107 = .ok (.bipush 9, 2) := by decide +kernel
theorem dX12_laue_109 : decode cX12_laue 109 = .ok (.iload 4, 2) := by decide +kernel
theorem dX12_laue_111 : decode cX12_laue 111 = .ok (.imul, 1) := by decide +kernel
theorem dX12_laue_112 : decode cX12_laue 112 = .ok (.iconst 4, 1) := by decide +kernel
theorem dX12_laue_113 : decode cX12_laue 113 = .ok (.iadd, 1) := by decide +kernel
theorem dX12_laue_114 : decode cX12_laue 114 = .ok (.iaload, 1) := by decide +kernel
theorem dX12_laue_115 : decode cX12_laue 115 = .ok (.iadd, 1) := by decide +kernel
theorem dX12_laue_116 : decode cX12_laue 116 = .ok (.aload_n 0, 1) := by decide +kernel
theorem dX12_laue_117 : decode cX12_laue 117 = .ok (.getfield 13, 3) := by decide +kernel
theorem dX12_laue_120 : decode cX12_laue 120 = .ok (.bipush 9, 2) := by decide +kernel
theorem dX12_laue_122 : decode cX12_laue 122 = .ok (.iload 4, 2) := by decide +kernel
theorem dX12_laue_124 : decode cX12_laue 124 = .ok (.imul, 1) := by decide +kernel
theorem dX12_laue_125 : decode cX12_laue 125 = .ok (.bipush 8, 2) := by decide +kernel
theorem dX12_laue_127 : decode cX12_laue 127 = .ok (.iadd, 1) := by decide +kernel
theorem dX12_laue_128 : decode cX12_laue 128 = .ok (.iaload, 1) := by decide +kernel
theorem dX12_laue_129 : decode cX12_laue 129 = .ok (.iadd, 1) := by decide +kernel
theorem dX12_laue_130 : decode cX12_laue 130 = .ok (.imul, 1) := by decide +kernel
theorem dX12_laue_131 : decode cX12_laue 131 = .ok (.istore 6, 2) := by decide +kernel
theorem dX12_laue_133 : decode cX12_laue 133 = .ok (.iload_n 2, 1) := by decide +kernel
theorem dX12_laue_134 : decode cX12_laue 134 = .ok (.ifCond .ne 9, 3) := by decide +kernel
theorem dX12_laue_137 : decode cX12_laue 137 = .ok (.iload 6, 2) := by decide +kernel
theorem dX12_laue_139 : decode cX12_laue 139 = .ok (.iconst 1, 1) := by decide +kernel
theorem dX12_laue_140 : decode cX12_laue 140 = .ok (.if_icmp .ne 7, 3) := by decide +kernel
theorem dX12_laue_143 : decode cX12_laue 143 = .ok (.iconst 1, 1) := by decide +kernel
theorem dX12_laue_144 : decode cX12_laue 144 = .ok (.goto 4, 3) := by decide +kernel
theorem dX12_laue_147 : decode cX12_laue 147 = .ok (.iconst 0, 1) := by decide +kernel
theorem dX12_laue_148 : decode cX12_laue 148 = .ok (.istore_n 2, 1) := by decide +kernel
theorem dX12_laue_149 : decode cX12_laue 149 = .ok (.iload_n 3, 1) := by decide +kernel
theorem dX12_laue_150 : decode cX12_laue 150 = .ok (.ifCond .ne 9, 3) := by decide +kernel
theorem dX12_laue_153 : decode cX12_laue 153 = .ok (.iload 6, 2) := by decide +kernel
theorem dX12_laue_155 : decode cX12_laue 155 = .ok (.iconst 2, 1) := by decide +kernel
theorem dX12_laue_156 : decode cX12_laue 156 = .ok (.if_icmp .ne 7, 3) := by decide +kernel
theorem dX12_laue_159 : decode cX12_laue 159 = .ok (.iconst 1, 1) := by decide +kernel
theorem dX12_laue_160 : decode cX12_laue 160 = .ok (.goto 4, 3) := by decide +kernel
theorem dX12_laue_163 : decode cX12_laue 163 = .ok (.iconst 0, 1) := by decide +kernel
theorem dX12_laue_164 : decode cX12_laue 164 = .ok (.istore_n 3, 1) := by decide +kernel
theorem dX12_laue_165 : decode cX12_laue 165 = .ok (.iinc 4 1, 3) := by decide +kernel
theorem dX12_laue_168 : decode cX12_laue 168 = .ok (.goto (-145), 3) := by decide +kernel
theorem dX12_laue_171 : decode cX12_laue 171 = .ok (.iload_n 1, 1) := by decide +kernel
theorem dX12_laue_172 : decode cX12_laue 172 = .ok (.tableswitch 106 1 12 #[64, 66, 68, 70, 106, 80, 106, 92, 106, 106, 106, 94], 64) := by decide +kernel
theorem dX12_laue_236 : decode cX12_laue 236 = .ok (.iconst 0, 1) := by decide +kernel
theorem dX12_laue_237 : decode cX12_laue 237 = .ok (.ireturn, 1) := by decide +kernel
theorem dX12_laue_238 : decode cX12_laue 238 = .ok (.iconst 1, 1) := by decide +kernel
theorem dX12_laue_239 : decode cX12_laue 239 = .ok (.ireturn, 1) := by decide +kernel
theorem dX12_laue_240 : decode cX12_laue 240 = .ok (.iconst 5, 1) := by decide +kernel
theorem dX12_laue_241 : decode cX12_laue 241 = .ok (.ireturn, 1) := by decide +kernel
theorem dX12_laue_242 : decode cX12_laue 242 = .ok (.iload_n 2, 1) := by decide +kernel
theorem dX12_laue_243 : decode cX12_laue 243 = .ok (.ifCond .eq 7, 3) := by decide +kernel
theorem dX12_laue_246 : decode cX12_laue 246 = .ok (.iconst 3, 1) := by decide +kernel
theorem dX12_laue_247 : decode cX12_laue 247 = .ok (.goto 4, 3) := by decide +kernel
theorem dX12_laue_250 : decode cX12_laue 250 = .ok (.iconst 2, 1) := by decide +kernel
theorem dX12_laue_251 : decode cX12_laue 251 = .ok (.ireturn, 1) := by decide +kernel
theorem dX12_laue_252 : decode cX12_laue 252 = .ok (.iload_n 3, 1) := by decide +kernel
theorem dX12_laue_253 : decode cX12_laue 253 = .ok (.ifCond .eq 8, 3) := by decide +kernel
theorem dX12_laue_256 : decode cX12_laue 256 = .ok (.bipush 7, 2) := by decide +kernel
theorem dX12_laue_258 : decode cX12_laue 258 = .ok (.goto 5, 3) := by decide +kernel
theorem dX12_laue_261 : decode cX12_laue 261 = .ok (.bipush 6, 2) := by decide +kernel
theorem dX12_laue_263 : decode cX12_laue 263 = .ok (.ireturn, 1) := by decide +kernel
theorem dX12_laue_264 : decode cX12_laue 264 = .ok (.iconst 4, 1) := by decide +kernel
theorem dX12_laue_265 : decode cX12_laue 265 = .ok (.ireturn, 1) := by decide +kernel
theorem dX12_laue_266 : decode cX12_laue 266 = .ok (.iload_n 3, 1) := by decide +kernel
theorem dX12_laue_267 : decode cX12_laue 267 = .ok (.ifCond .eq 8, 3) := by decide +kernel
theorem dX12_laue_270 : decode cX12_laue 270 = .ok (.bipush 8, 2) := by decide +kernel
theorem dX12_laue_272 : decode cX12_laue 272 = .ok (.goto 5, 3) := by decide +kernel
theorem dX12_laue_275 : decode cX12_laue 275 = .ok (.bipush 9, 2) := by decide +kernel
theorem dX12_laue_277 : decode cX12_laue 277 = .ok (.ireturn, 1) := by decide +kernel
theorem dX12_laue_278 : decode cX12_laue 278 = .ok (.bipush 10, 2) := by decide +kernel
theorem dX12_laue_280 : decode cX12_laue 280 = .ok (.ireturn, 1) := by decide +kernel
theorem dX12_plain_0 : decode cX12_plain 0 = .ok (.aload_n 0, 1) := by decide +kernel
theorem dX12_plain_1 : decode cX12_plain 1 = .ok (.iconst 0, 1) := by decide +kernel
theorem dX12_plain_2 : decode cX12_plain 2 = .ok (.putfield 85, 3) := by decide +kernel
theorem dX12_plain_5 : decode cX12_plain 5 = .ok (.iconst 0, 1) := by decide +kernel
theorem dX12_plain_6 : decode cX12_plain 6 = .ok (.istore_n 2, 1) := by decide +kernel
theorem dX12_plain_7 : decode cX12_plain 7 = .ok (.iconst 0, 1) := by decide +kernel
theorem dX12_plain_8 : decode cX12_plain 8 = .ok (.istore_n 3, 1) := by decide +kernel
theorem dX12_plain_9 : decode cX12_plain 9 = .ok (.iload_n 3, 1) := by decide +kernel
theorem dX12_plain_10 : decode cX12_plain 10 = .ok (.aload_n 0, 1) := by decide +kernel
theorem dX12_plain_11 : decode cX12_plain 11 = .ok (.getfield 183, 3) := by decide +kernel
theorem dX12_plain_14 : decode cX12_plain 14 = .ok (.if_icmp .ge 90, 3) := by decide +kernel
theorem dX12_plain_17 : decode cX12_plain 17 = .ok (.iload_n 1, 1) := by decide +kernel
theorem dX12_plain_18 : decode cX12_plain 18 = .ok (.iconst 1, 1) := by decide +kernel
theorem dX12_plain_19 : decode cX12_plain 19 = .ok (.if_icmp .eq 8, 3) := by decide +kernel
theorem dX12_plain_22 : decode cX12_plain 22 = .ok (.iload_n 1, 1) := by decide +kernel
theorem dX12_plain_23 : decode cX12_plain 23 = .ok (.iconst (-1), 1) := by decide +kernel
theorem dX12_plain_24 : decode cX12_plain 24 = .ok (.if_icmp .ne 80, 3) := by decide +kernel
theorem dX12_plain_27 : decode cX12_plain 27 = .ok (.iconst 1, 1) := by decide +kernel
theorem dX12_plain_28 : decode cX12_plain 28 = .ok (.istore 4, 2) := by decide +kernel
theorem dX12_plain_30 : decode cX12_plain 30 = .ok (.iconst 0, 1) := by decide +kernel
theorem dX12_plain_31 : decode cX12_plain 31 = .ok (.istore 5, 2) := by decide +kernel
theorem dX12_plain_33 : decode cX12_plain 33 = .ok (.iload 5, 2) := by decide +kernel
theorem dX12_plain_35 : decode cX12_plain 35 = .ok (.bipush 9, 2) := by decide +kernel
theorem dX12_plain_37 : decode cX12_plain 37 = .ok (.if_icmp .ge 48, 3) := by decide +kernel
theorem dX12_plain_40 : decode cX12_plain 40 = .ok (.iload 4, 2) := by decide +kernel
theorem dX12_plain_42 : decode cX12_plain 42 = .ok (.ifCond .eq 34, 3) := by decide +kernel
theorem dX12_plain_45 : decode cX12_plain 45 = .ok (.aload_n 0, 1) := by decide +kernel
theorem dX12_plain_46 : decode cX12_plain 46 = .ok (.getfield 13, 3) := by decide +kernel
theorem dX12_plain_49 : decode cX12_plain 49 = .ok (.bipush 9, 2) := by decide +kernel
theorem dX12_plain_51 : decode cX12_plain 51 = .ok (.iload_n 3, 1) := by decide +kernel
theorem dX12_plain_52 : decode cX12_plain 52 = .ok (.imul, 1) := by decide +kernel
theorem dX12_plain_53 : decode cX12_plain 53 = .ok (.iload 5, 2) := by decide +kernel
theorem dX12_plain_55 : decode cX12_plain 55 = .ok (.iadd, 1) := by decide +kernel
theorem dX12_plain_56 : decode cX12_plain 56 = .ok (.iaload, 1) := by decide +kernel
theorem dX12_plain_57 : decode cX12_plain 57 = .ok (.iload 5, 2) := by decide +kernel
theorem dX12_plain_59 : decode cX12_plain 59 = .ok (.iconst 4, 1) := by decide +kernel
theorem dX12_plain_60 : decode cX12_plain 60 = .ok (.irem, 1) := by decide +kernel
theorem dX12_plain_61 : decode cX12_plain 61 = .ok (.ifCond .ne 7, 3) := by decide +kernel
theorem dX12_plain_64 : decode cX12_plain 64 = .ok (.iload_n 1, 1) := by decide +kernel
theorem dX12_plain_65 : decode cX12_plain 65 = .ok (.goto 4, 3) := by decide +kernel
theorem dX12_plain_68 : decode cX12_plain 68 = .ok (.iconst 0, 1) := by decide +kernel
theorem dX12_plain_69 : decode cX12_plain 69 = .ok (.if_icmp .ne 7, 3) := by decide +kernel
theorem dX12_plain_72 : decode cX12_plain 72 = .ok (.iconst 1, 1) := by decide +kernel
theorem dX12_plain_73 : decode cX12_plain 73 = .ok (.goto 4, 3) := by decide +kernel
theorem dX12_plain_76 : decode cX12_plain 76 = .ok (.iconst 0, 1) := by decide +kernel
theorem dX12_plain_77 : decode cX12_plain 77 = .ok (.istore 4, 2) := by decide +kernel
theorem dX12_plain_79 : decode cX12_plain 79 = .ok (.iinc 5 1, 3) := by decide +kernel
theorem dX12_plain_82 : decode cX12_plain 82 = .ok (.goto (-49), 3) := by decide +kernel
theorem dX12_plain_85 : decode cX12_plain 85 = .ok (.iload 4, 2) := by decide +kernel
theorem dX12_plain_87 : decode cX12_plain 87 = .ok (.ifCond .eq 9, 3) := by decide +kernel
theorem dX12_plain_90 : decode cX12_plain 90 = .ok (.iload_n 2, 1) := by decide +kernel
theorem dX12_plain_91 : decode cX12_plain 91 = .ok (.iconst 1, 1) := by decide +kernel
theorem dX12_plain_92 : decode cX12_plain 92 = .ok (.iadd, 1) := by decide +kernel
theorem dX12_plain_93 : decode cX12_plain 93 = .ok (.goto 4, 3) := by decide +kernel
theorem dX12_plain_96 : decode cX12_plain 96 = .ok (.iload_n 2, 1) := by decide +kernel
theorem dX12_plain_97 : decode cX12_plain 97 = .ok (.istore_n 2, 1) := by decide +kernel
theorem dX12_plain_98 : decode cX12_plain 98 = .ok (.iinc 3 1, 3) := by decide +kernel
theorem dX12_plain_101 : decode cX12_plain 101 = .ok (.goto (-92), 3) := by decide +kernel
theorem dX12_plain_104 : decode cX12_plain 104 = .ok (.iload_n 2, 1) := by decide +kernel
theorem dX12_plain_105 : decode cX12_plain 105 = .ok (.ireturn, 1) := by decide +kernel
theorem dX12_isIndex_0 : decode cX12_isIndex 0 = .ok (.iload_n 0, 1) := by decide +kernel
theorem dX12_isIndex_1 : decode cX12_isIndex 1 = .ok (.bipush (-127), 2) := by decide +kernel
theorem dX12_isIndex_3 : decode cX12_isIndex 3 = .ok (.bipush 127, 2) := by decide +kernel
theorem dX12_isIndex_5 : decode cX12_isIndex 5 = .ok (.invokestatic 96, 3) := by decide +kernel
theorem dX12_isIndex_8 : decode cX12_isIndex 8 = .ok (.ifCond .eq 29, 3) := by decide +kernel
theorem dX12_isIndex_11 : decode cX12_isIndex 11 = .ok (.iload_n 1, 1) := by decide +kernel
theorem dX12_isIndex_12 : decode cX12_isIndex 12 = .ok (.bipush (-127), 2) := by decide +kernel
theorem dX12_isIndex_14 : decode cX12_isIndex 14 = .ok (.bipush 127, 2) := by decide +kernel
theorem dX12_isIndex_16 : decode cX12_isIndex 16 = .ok (.invokestatic 96, 3) := by decide +kernel
theorem dX12_isIndex_19 : decode cX12_isIndex 19 = .ok (.ifCond .eq 18, 3) := by decide +kernel
theorem dX12_isIndex_22 : decode cX12_isIndex 22 = .ok (.iload_n 2, 1) := by decide +kernel
theorem dX12_isIndex_23 : decode cX12_isIndex 23 = .ok (.bipush (-127), 2) := by decide +kernel
theorem dX12_isIndex_25 : decode cX12_isIndex 25 = .ok (.bipush 127, 2) := by decide +kernel
theorem dX12_isIndex_27 : decode cX12_isIndex 27 = .ok (.invokestatic 96, 3) := by decide +kernel
theorem dX12_isIndex_30 : decode cX12_isIndex 30 = .ok (.ifCond .eq 7, 3) := by decide +kernel
theorem dX12_isIndex_33 : decode cX12_isIndex 33 = .ok (.iconst 1, 1) := by decide +kernel
theorem dX12_isIndex_34 : decode cX12_isIndex 34 = .ok (.goto 4, 3) := by decide +kernel
theorem dX12_isIndex_37 : decode cX12_isIndex 37 = .ok (.iconst 0, 1) := by decide +kernel
theorem dX12_isIndex_38 : decode cX12_isIndex 38 = .ok (.ireturn, 1) := by decide +kernel
theorem dX12_sentTo_0 : decode cX12_sentTo 0 = .ok (.iload_n 2, 1) := by decide +kernel
theorem dX12_sentTo_1 : decode cX12_sentTo 1 = .ok (.aload_n 0, 1) := by decide +kernel
theorem dX12_sentTo_2 : decode cX12_sentTo 2 = .ok (.getfield 13, 3) := by decide +kernel
theorem dX12_sentTo_5 : decode cX12_sentTo 5 = .ok (.bipush 9, 2) := by decide +kernel
theorem dX12_sentTo_7 : decode cX12_sentTo 7 = .ok (.iload_n 1, 1) := by decide +kernel
theorem dX12_sentTo_8 : decode cX12_sentTo 8 = .ok (.imul, 1) := by decide +kernel
theorem dX12_sentTo_9 : decode cX12_sentTo 9 = .ok (.iload 5, 2) := by decide +kernel
theorem dX12_sentTo_11 : decode cX12_sentTo 11 = .ok (.iadd, 1) := by decide +kernel
theorem dX12_sentTo_12 : decode cX12_sentTo 12 = .ok (.iaload, 1) := by decide +kernel
theorem dX12_sentTo_13 : decode cX12_sentTo 13 = .ok (.imul, 1) := by decide +kernel
theorem dX12_sentTo_14 : decode cX12_sentTo 14 = .ok (.iload_n 3, 1) := by decide +kernel
theorem dX12_sentTo_15 : decode cX12_sentTo 15 = .ok (.aload_n 0, 1) := by decide +kernel
theorem dX12_sentTo_16 : decode cX12_sentTo 16 = .ok (.getfield 13, 3) := by decide +kernel
theorem dX12_sentTo_19 : decode cX12_sentTo 19 = .ok (.bipush 9, 2) := by decide +kernel
theorem dX12_sentTo_21 : decode cX12_sentTo 21 = .ok (.iload_n 1, 1) := by decide +kernel
theorem dX12_sentTo_22 : decode cX12_sentTo 22 = .ok (.imul, 1) := by decide +kernel
theorem dX12_sentTo_23 : decode cX12_sentTo 23 = .ok (.iconst 3, 1) := by decide +kernel
theorem dX12_sentTo_24 : decode cX12_sentTo 24 = .ok (.iadd, 1) := by decide +kernel
theorem dX12_sentTo_25 : decode cX12_sentTo 25 = .ok (.iload 5, 2) := by decide +kernel
theorem dX12_sentTo_27 : decode cX12_sentTo 27 = .ok (.iadd, 1) := by decide +kernel
theorem dX12_sentTo_28 : decode cX12_sentTo 28 = .ok (.iaload, 1) := by decide +kernel
theorem dX12_sentTo_29 : decode cX12_sentTo 29 = .ok (.imul, 1) := by decide +kernel
theorem dX12_sentTo_30 : decode cX12_sentTo 30 = .ok (.iadd, 1) := by decide +kernel
theorem dX12_sentTo_31 : decode cX12_sentTo 31 = .ok (.iload 4, 2) := by decide +kernel
theorem dX12_sentTo_33 : decode cX12_sentTo 33 = .ok (.aload_n 0, 1) := by decide +kernel
theorem dX12_sentTo_34 : decode cX12_sentTo 34 = .ok (.getfield 13, 3) := by decide +kernel
theorem dX12_sentTo_37 : decode cX12_sentTo 37 = .ok (.bipush 9, 2) := by decide +kernel
theorem dX12_sentTo_39 : decode cX12_sentTo 39 = .ok (.iload_n 1, 1) := by decide +kernel
theorem dX12_sentTo_40 : decode cX12_sentTo 40 = .ok (.imul, 1) := by decide +kernel
theorem dX12_sentTo_41 : decode cX12_sentTo 41 = .ok (.bipush 6, 2) := by decide +kernel
theorem dX12_sentTo_43 : decode cX12_sentTo 43 = .ok (.iadd, 1) := by decide +kernel
theorem dX12_sentTo_44 : decode cX12_sentTo 44 = .ok (.iload 5, 2) := by decide +kernel
theorem dX12_sentTo_46 : decode cX12_sentTo 46 = .ok (.iadd, 1) := by decide +kernel
theorem dX12_sentTo_47 : decode cX12_sentTo 47 = .ok (.iaload, 1) := by decide +kernel
theorem dX12_sentTo_48 : decode cX12_sentTo 48 = .ok (.imul, 1) := by decide +kernel
theorem dX12_sentTo_49 : decode cX12_sentTo 49 = .ok (.iadd, 1) := by decide +kernel
theorem dX12_sentTo_50 : decode cX12_sentTo 50 = .ok (.ireturn, 1) := by decide +kernel
theorem dX12_phase_0 : decode cX12_phase 0 = .ok (.iload_n 2, 1) := by decide +kernel
theorem dX12_phase_1 : decode cX12_phase 1 = .ok (.aload_n 0, 1) := by decide +kernel
theorem dX12_phase_2 : decode cX12_phase 2 = .ok (.getfield 17, 3) := by decide +kernel
theorem dX12_phase_5 : decode cX12_phase 5 = .ok (.iconst 3, 1) := by decide +kernel
theorem dX12_phase_6 : decode cX12_phase 6 = .ok (.iload_n 1, 1) := by decide +kernel
theorem dX12_phase_7 : decode cX12_phase 7 = .ok (.imul, 1) := by decide +kernel
theorem dX12_phase_8 : decode cX12_phase 8 = .ok (.iaload, 1) := by decide +kernel
theorem dX12_phase_9 : decode cX12_phase 9 = .ok (.imul, 1) := by decide +kernel
theorem dX12_phase_10 : decode cX12_phase 10 = .ok (.iload_n 3, 1) := by decide +kernel
theorem dX12_phase_11 : decode cX12_phase 11 = .ok (.aload_n 0, 1) := by decide +kernel
theorem dX12_phase_12 : decode cX12_phase 12 = .ok (.getfield 17, 3) := by decide +kernel
theorem dX12_phase_15 : decode cX12_phase 15 = .ok (.iconst 3, 1) := by decide +kernel
theorem dX12_phase_16 : decode cX12_phase 16 = .ok (.iload_n 1, 1) := by decide +kernel
theorem dX12_phase_17 : decode cX12_phase 17 = .ok (.imul, 1) := by decide +kernel
theorem dX12_phase_18 : decode cX12_phase 18 = .ok (.iconst 1, 1) := by decide +kernel
theorem dX12_phase_19 : decode cX12_phase 19 = .ok (.iadd, 1) := by decide +kernel
theorem dX12_phase_20 : decode cX12_phase 20 = .ok (.iaload, 1) := by decide +kernel
theorem dX12_phase_21 : decode cX12_phase 21 = .ok (.imul, 1) := by decide +kernel
theorem dX12_phase_22 : decode cX12_phase 22 = .ok (.iadd, 1) := by decide +kernel
theorem dX12_phase_23 : decode cX12_phase 23 = .ok (.iload 4, 2) := by decide +kernel
theorem dX12_phase_25 : decode cX12_phase 25 = .ok (.aload_n 0, 1) := by decide +kernel
theorem dX12_phase_26 : decode cX12_phase 26 = .ok (.getfield 17, 3) := by decide +kernel
theorem dX12_phase_29 : decode cX12_phase 29 = .ok (.iconst 3, 1) := by decide +kernel
theorem dX12_phase_30 : decode cX12_phase 30 = .ok (.iload_n 1, 1) := by decide +kernel
theorem dX12_phase_31 : decode cX12_phase 31 = .ok (.imul, 1) := by decide +kernel
theorem dX12_phase_32 : decode cX12_phase 32 = .ok (.iconst 2, 1) := by decide +kernel
theorem dX12_phase_33 : decode cX12_phase 33 = .ok (.iadd, 1) := by decide +kernel
theorem dX12_phase_34 : decode cX12_phase 34 = .ok (.iaload, 1) := by decide +kernel
theorem dX12_phase_35 : decode cX12_phase 35 = .ok (.imul, 1) := by decide +kernel
theorem dX12_phase_36 : decode cX12_phase 36 = .ok (.iadd, 1) := by decide +kernel
theorem dX12_phase_37 : decode cX12_phase 37 = .ok (.istore 5, 2) := by decide +kernel
theorem dX12_phase_39 : decode cX12_phase 39 = .ok (.iload 5, 2) := by decide +kernel
theorem dX12_phase_41 : decode cX12_phase 41 = .ok (.bipush 12, 2) := by decide +kernel
theorem dX12_phase_43 : decode cX12_phase 43 = .ok (.irem, 1) := by decide +kernel
theorem dX12_phase_44 : decode cX12_phase 44 = .ok (.bipush 12, 2) := by decide +kernel
theorem dX12_phase_46 : decode cX12_phase 46 = .ok (.iadd, 1) := by decide +kernel
theorem dX12_phase_47 : decode cX12_phase 47 = .ok (.bipush 12, 2) := by decide +kernel
theorem dX12_phase_49 : decode cX12_phase 49 = .ok (.irem, 1) := by decide +kernel
theorem dX12_phase_50 : decode cX12_phase 50 = .ok (.ireturn, 1) := by decide +kernel
theorem dX12_sent_0 : decode cX12_sent 0 = .ok (.aload_n 0, 1) := by decide +kernel
theorem dX12_sent_1 : decode cX12_sent 1 = .ok (.iload_n 1, 1) := by decide +kernel
theorem dX12_sent_2 : decode cX12_sent 2 = .ok (.iconst 0, 1) := by decide +kernel
theorem dX12_sent_3 : decode cX12_sent 3 = .ok (.aload_n 0, 1) := by decide +kernel
theorem dX12_sent_4 : decode cX12_sent 4 = .ok (.getfield 183, 3) := by decide +kernel
theorem dX12_sent_7 : decode cX12_sent 7 = .ok (.iconst 1, 1) := by decide +kernel
theorem dX12_sent_8 : decode cX12_sent 8 = .ok (.isub, 1) := by decide +kernel
theorem dX12_sent_9 : decode cX12_sent 9 = .ok (.invokestatic 96, 3) := by decide +kernel
theorem dX12_sent_12 : decode cX12_sent 12 = .ok (.ifCond .eq 13, 3) := by decide +kernel
theorem dX12_sent_15 : decode cX12_sent 15 = .ok (.iload 5, 2) := by decide +kernel
theorem dX12_sent_17 : decode cX12_sent 17 = .ok (.iconst 0, 1) := by decide +kernel
theorem dX12_sent_18 : decode cX12_sent 18 = .ok (.iconst 3, 1) := by decide +kernel
theorem dX12_sent_19 : decode cX12_sent 19 = .ok (.invokestatic 96, 3) := by decide +kernel
theorem dX12_sent_22 : decode cX12_sent 22 = .ok (.ifCond .ne 7, 3) := by decide +kernel
theorem dX12_sent_25 : decode cX12_sent 25 = .ok (.iconst 1, 1) := by decide +kernel
theorem dX12_sent_26 : decode cX12_sent 26 = .ok (.goto 18, 3) := by decide +kernel
theorem dX12_sent_29 : decode cX12_sent 29 = .ok (.iload_n 2, 1) := by decide +kernel
theorem dX12_sent_30 : decode cX12_sent 30 = .ok (.iload_n 3, 1) := by decide +kernel
theorem dX12_sent_31 : decode cX12_sent 31 = .ok (.iload 4, 2) := by decide +kernel
theorem dX12_sent_33 : decode cX12_sent 33 = .ok (.invokestatic 205, 3) := by decide +kernel
theorem dX12_sent_36 : decode cX12_sent 36 = .ok (.ifCond .ne 7, 3) := by decide +kernel
theorem dX12_sent_39 : decode cX12_sent 39 = .ok (.iconst 2, 1) := by decide +kernel
theorem dX12_sent_40 : decode cX12_sent 40 = .ok (.goto 4, 3) := by decide +kernel
theorem dX12_sent_43 : decode cX12_sent 43 = .ok (.iconst 0, 1) := by decide +kernel
theorem dX12_sent_44 : decode cX12_sent 44 = .ok (.putfield 85, 3) := by decide +kernel
theorem dX12_sent_47 : decode cX12_sent 47 = .ok (.aload_n 0, 1) := by decide +kernel
theorem dX12_sent_48 : decode cX12_sent 48 = .ok (.getfield 85, 3) := by decide +kernel
theorem dX12_sent_51 : decode cX12_sent 51 = .ok (.ifCond .le 7, 3) := by decide +kernel
theorem dX12_sent_54 : decode cX12_sent 54 = .ok (.iconst 0, 1) := by decide +kernel
theorem dX12_sent_55 : decode cX12_sent 55 = .ok (.goto 32, 3) := by decide +kernel
theorem dX12_sent_58 : decode cX12_sent 58 = .ok (.iload 5, 2) := by decide +kernel
theorem dX12_sent_60 : decode cX12_sent 60 = .ok (.iconst 3, 1) := by decide +kernel
theorem dX12_sent_61 : decode cX12_sent 61 = .ok (.if_icmp .ne 15, 3) := by decide +kernel
theorem dX12_sent_64 : decode cX12_sent 64 = .ok (.aload_n 0, 1) := by decide +kernel
theorem dX12_sent_65 : decode cX12_sent 65 = .ok (.iload_n 1, 1) := by decide +kernel
theorem dX12_sent_66 : decode cX12_sent 66 = .ok (.iload_n 2, 1) := by decide +kernel
theorem dX12_sent_67 : decode cX12_sent 67 = .ok (.iload_n 3, 1) := by decide +kernel
theorem dX12_sent_68 : decode cX12_sent 68 = .ok (.iload 4, 2) := by decide +kernel
theorem dX12_sent_70 : decode cX12_sent 70 = .ok (.invokevirtual 208, 3) := by decide +kernel
theorem dX12_sent_73 : decode cX12_sent 73 = .ok (.goto 14, 3) := by decide +kernel
theorem dX12_sent_76 : decode cX12_sent 76 = .ok (.aload_n 0, 1) := by decide +kernel
theorem dX12_sent_77 : decode cX12_sent 77 = .ok (.iload_n 1, 1) := by decide +kernel
theorem dX12_sent_78 : decode cX12_sent 78 = .ok (.iload_n 2, 1) := by decide +kernel
theorem dX12_sent_79 : decode cX12_sent 79 = .ok (.iload_n 3, 1) := by decide +kernel
theorem dX12_sent_80 : decode cX12_sent 80 = .ok (.iload 4, 2) := by decide +kernel
theorem dX12_sent_82 : decode cX12_sent 82 = .ok (.iload 5, 2) := by decide +kernel
theorem dX12_sent_84 : decode cX12_sent 84 = .ok (.invokevirtual 212, 3) := by decide +kernel
theorem dX12_sent_87 : decode cX12_sent 87 = .ok (.ireturn, 1) := by decide +kernel
theorem dX12_isAbsent_0 : decode cX12_isAbsent 0 = .ok (.iconst 0, 1) := by decide +kernel
theorem dX12_isAbsent_1 : decode cX12_isAbsent 1 = .ok (.istore 4, 2) := by decide +kernel
theorem dX12_isAbsent_3 : decode cX12_isAbsent 3 = .ok (.iconst 0, 1) := by decide +kernel
theorem dX12_isAbsent_4 : decode cX12_isAbsent 4 = .ok (.istore 5, 2) := by decide +kernel
theorem dX12_isAbsent_6 : decode cX12_isAbsent 6 = .ok (.iload 5, 2) := by decide +kernel
theorem dX12_isAbsent_8 : decode cX12_isAbsent 8 = .ok (.aload_n 0, 1) := by decide +kernel
theorem dX12_isAbsent_9 : decode cX12_isAbsent 9 = .ok (.getfield 183, 3) := by decide +kernel
theorem dX12_isAbsent_12 : decode cX12_isAbsent 12 = .ok (.if_icmp .ge 75, 3) := by decide +kernel
theorem dX12_isAbsent_15 : decode cX12_isAbsent 15 = .ok (.iload 4, 2) := by decide +kernel
theorem dX12_isAbsent_17 : decode cX12_isAbsent 17 = .ok (.ifCond .ne 70, 3) := by decide +kernel
theorem dX12_isAbsent_20 : decode cX12_isAbsent 20 = .ok (.aload_n 0, 1) := by decide +kernel
theorem dX12_isAbsent_21 : decode cX12_isAbsent 21 = .ok (.iload 5, 2) := by decide +kernel
theorem dX12_isAbsent_23 : decode cX12_isAbsent 23 = .ok (.iload_n 1, 1) := by decide +kernel
theorem dX12_isAbsent_24 : decode cX12_isAbsent 24 = .ok (.iload_n 2, 1) := by decide +kernel
theorem dX12_isAbsent_25 : decode cX12_isAbsent 25 = .ok (.iload_n 3, 1) := by decide +kernel
theorem dX12_isAbsent_26 : decode cX12_isAbsent 26 = .ok (.iconst 0, 1) := by decide +kernel
theorem dX12_isAbsent_27 : decode cX12_isAbsent 27 = .ok (.invokevirtual 212, 3) := by decide +kernel
theorem dX12_isAbsent_30 : decode cX12_isAbsent 30 = .ok (.iload_n 1, 1) := by decide +kernel
theorem dX12_isAbsent_31 : decode cX12_isAbsent 31 = .ok (.if_icmp .ne 47, 3) := by decide +kernel
theorem dX12_isAbsent_34 : decode cX12_isAbsent 34 = .ok (.aload_n 0, 1) := by decide +kernel
theorem dX12_isAbsent_35 : decode cX12_isAbsent 35 = .ok (.iload 5, 2) := by decide +kernel
theorem dX12_isAbsent_37 : decode cX12_isAbsent 37 = .ok (.iload_n 1, 1) := by decide +kernel
theorem dX12_isAbsent_38 : decode cX12_isAbsent 38 = .ok (.iload_n 2, 1) := by decide +kernel
theorem dX12_isAbsent_39 : decode cX12_isAbsent 39 = .ok (.iload_n 3, 1) := by decide +kernel
theorem dX12_isAbsent_40 : decode cX12_isAbsent 40 = .ok (.iconst 1, 1) := by decide +kernel
theorem dX12_isAbsent_41 : decode cX12_isAbsent 41 = .ok (.invokevirtual 212, 3) := by decide +kernel
theorem dX12_isAbsent_44 : decode cX12_isAbsent 44 = .ok (.iload_n 2, 1) := by decide +kernel
theorem dX12_isAbsent_45 : decode cX12_isAbsent 45 = .ok (.if_icmp .ne 33, 3) := by decide +kernel
theorem dX12_isAbsent_48 : decode cX12_isAbsent 48 = .ok (.aload_n 0, 1) := by decide +kernel
theorem dX12_isAbsent_49 : decode cX12_isAbsent 49 = .ok (.iload 5, 2) := by decide +kernel
theorem dX12_isAbsent_51 : decode cX12_isAbsent 51 = .ok (.iload_n 1, 1) := by decide +kernel
theorem dX12_isAbsent_52 : decode cX12_isAbsent 52 = .ok (.iload_n 2, 1) := by decide +kernel
theorem dX12_isAbsent_53 : decode cX12_isAbsent 53 = .ok (.iload_n 3, 1) := by decide +kernel
theorem dX12_isAbsent_54 : decode cX12_isAbsent 54 = .ok (.iconst 2, 1) := by decide +kernel
theorem dX12_isAbsent_55 : decode cX12_isAbsent 55 = .ok (.invokevirtual 212, 3) := by decide +kernel
theorem dX12_isAbsent_58 : decode cX12_isAbsent 58 = .ok (.iload_n 3, 1) := by decide +kernel
theorem dX12_isAbsent_59 : decode cX12_isAbsent 59 = .ok (.if_icmp .ne 19, 3) := by decide +kernel
theorem dX12_isAbsent_62 : decode cX12_isAbsent 62 = .ok (.aload_n 0, 1) := by decide +kernel
theorem dX12_isAbsent_63 : decode cX12_isAbsent 63 = .ok (.iload 5, 2) := by decide +kernel
theorem dX12_isAbsent_65 : decode cX12_isAbsent 65 = .ok (.iload_n 1, 1) := by decide +kernel
theorem dX12_isAbsent_66 : decode cX12_isAbsent 66 = .ok (.iload_n 2, 1) := by decide +kernel
theorem dX12_isAbsent_67 : decode cX12_isAbsent 67 = .ok (.iload_n 3, 1) := by decide +kernel
theorem dX12_isAbsent_68 : decode cX12_isAbsent 68 = .ok (.invokevirtual 208, 3) := by decide +kernel
theorem dX12_isAbsent_71 : decode cX12_isAbsent 71 = .ok (.ifCond .eq 7, 3) := by decide +kernel
theorem dX12_isAbsent_74 : decode cX12_isAbsent 74 = .ok (.iconst 1, 1) := by decide +kernel
theorem dX12_isAbsent_75 : decode cX12_isAbsent 75 = .ok (.goto 4, 3) := by decide +kernel
theorem dX12_isAbsent_78 : decode cX12_isAbsent 78 = .ok (.iconst 0, 1) := by decide +kernel
theorem dX12_isAbsent_79 : decode cX12_isAbsent 79 = .ok (.istore 4, 2) := by decide +kernel
theorem dX12_isAbsent_81 : decode cX12_isAbsent 81 = .ok (.iinc 5 1, 3) := by decide +kernel
theorem dX12_isAbsent_84 : decode cX12_isAbsent 84 = .ok (.goto (-78), 3) := by decide +kernel
theorem dX12_isAbsent_87 : decode cX12_isAbsent 87 = .ok (.iload 4, 2) := by decide +kernel
theorem dX12_isAbsent_89 : decode cX12_isAbsent 89 = .ok (.ireturn, 1) := by decide +kernel
theorem dX12_absent_0 : decode cX12_absent 0 = .ok (.aload_n 0, 1) := by decide +kernel
theorem dX12_absent_1 : decode cX12_absent 1 = .ok (.aload_n 0, 1) := by decide +kernel
theorem dX12_absent_2 : decode cX12_absent 2 = .ok (.getfield 183, 3) := by decide +kernel
theorem dX12_absent_5 : decode cX12_absent 5 = .ok (.ifCond .ne 7, 3) := by decide +kernel
theorem dX12_absent_8 : decode cX12_absent 8 = .ok (.iconst 1, 1) := by decide +kernel
theorem dX12_absent_9 : decode cX12_absent 9 = .ok (.goto 17, 3) := by decide +kernel
theorem dX12_absent_12 : decode cX12_absent 12 = .ok (.iload_n 1, 1) := by decide +kernel
theorem dX12_absent_13 : decode cX12_absent 13 = .ok (.iload_n 2, 1) := by decide +kernel
theorem dX12_absent_14 : decode cX12_absent 14 = .ok (.iload_n 3, 1) := by decide +kernel
theorem dX12_absent_15 : decode cX12_absent 15 = .ok (.invokestatic 205, 3) := by decide +kernel
theorem dX12_absent_18 : decode cX12_absent 18 = .ok (.ifCond .ne 7, 3) := by decide +kernel
theorem dX12_absent_21 : decode cX12_absent 21 = .ok (.iconst 2, 1) := by decide +kernel
theorem dX12_absent_22 : decode cX12_absent 22 = .ok (.goto 4, 3) := by decide +kernel
theorem dX12_absent_25 : decode cX12_absent 25 = .ok (.iconst 0, 1) := by decide +kernel
theorem dX12_absent_26 : decode cX12_absent 26 = .ok (.putfield 85, 3) := by decide +kernel
theorem dX12_absent_29 : decode cX12_absent 29 = .ok (.aload_n 0, 1) := by decide +kernel
theorem dX12_absent_30 : decode cX12_absent 30 = .ok (.getfield 85, 3) := by decide +kernel
theorem dX12_absent_33 : decode cX12_absent 33 = .ok (.ifCond .ne 17, 3) := by decide +kernel
theorem dX12_absent_36 : decode cX12_absent 36 = .ok (.aload_n 0, 1) := by decide +kernel
theorem dX12_absent_37 : decode cX12_absent 37 = .ok (.iload_n 1, 1) := by decide +kernel
theorem dX12_absent_38 : decode cX12_absent 38 = .ok (.iload_n 2, 1) := by decide +kernel
theorem dX12_absent_39 : decode cX12_absent 39 = .ok (.iload_n 3, 1) := by decide +kernel
theorem dX12_absent_40 : decode cX12_absent 40 = .ok (.invokevirtual 216, 3) := by decide +kernel
theorem dX12_absent_43 : decode cX12_absent 43 = .ok (.ifCond .eq 7, 3) := by decide +kernel
theorem dX12_absent_46 : decode cX12_absent 46 = .ok (.iconst 1, 1) := by decide +kernel
theorem dX12_absent_47 : decode cX12_absent 47 = .ok (.goto 4, 3) := by decide +kernel
theorem dX12_absent_50 : decode cX12_absent 50 = .ok (.iconst 0, 1) := by decide +kernel
theorem dX12_absent_51 : decode cX12_absent 51 = .ok (.ireturn, 1) := by decide +kernel
theorem dX12_key_0 : decode cX12_key 0 = .ok (.iload_n 0, 1) := by decide +kernel
theorem dX12_key_1 : decode cX12_key 1 = .ok (.i2l, 1) := by decide +kernel
theorem dX12_key_2 : decode cX12_key 2 = .ok (.ldc2_w 219, 3) := by decide +kernel
theorem dX12_key_5 : decode cX12_key 5 = .ok (.ladd, 1) := by decide +kernel
theorem dX12_key_6 : decode cX12_key 6 = .ok (.ldc2_w 221, 3) := by decide +kernel
theorem dX12_key_9 : decode cX12_key 9 = .ok (.lmul, 1) := by decide +kernel
theorem dX12_key_10 : decode cX12_key 10 = .ok (.iload_n 1, 1) := by decide +kernel
theorem dX12_key_11 : decode cX12_key 11 = .ok (.i2l, 1) := by decide +kernel
theorem dX12_key_12 : decode cX12_key 12 = .ok (.ladd, 1) := by decide +kernel
theorem dX12_key_13 : decode cX12_key 13 = .ok (.ldc2_w 219, 3) := by decide +kernel
theorem dX12_key_16 : decode cX12_key 16 = .ok (.ladd, 1) := by decide +kernel
theorem dX12_key_17 : decode cX12_key 17 = .ok (.ldc2_w 221, 3) := by decide +kernel
theorem dX12_key_20 : decode cX12_key 20 = .ok (.lmul, 1) := by decide +kernel
theorem dX12_key_21 : decode cX12_key 21 = .ok (.iload_n 2, 1) := by decide +kernel
theorem dX12_key_22 : decode cX12_key 22 = .ok (.i2l, 1) := by decide +kernel
theorem dX12_key_23 : decode cX12_key 23 = .ok (.ladd, 1) := by decide +kernel
theorem dX12_key_24 : decode cX12_key 24 = .ok (.ldc2_w 219, 3) := by decide +kernel
theorem dX12_key_27 : decode cX12_key 27 = .ok (.ladd, 1) := by decide +kernel
theorem dX12_key_28 : decode cX12_key 28 = .ok (.lreturn, 1) := by decide +kernel
theorem dX12_part_0 : decode cX12_part 0 = .ok (.iload_n 2, 1) := by decide +kernel
theorem dX12_part_1 : decode cX12_part 1 = .ok (.ifCond .ne 10, 3) := by decide +kernel
theorem dX12_part_4 : decode cX12_part 4 = .ok (.lload_n 0, 1) := by decide +kernel
theorem dX12_part_5 : decode cX12_part 5 = .ok (.bipush 40, 2) := by decide +kernel
theorem dX12_part_7 : decode cX12_part 7 = .ok (.lshr, 1) := by decide +kernel
theorem dX12_part_8 : decode cX12_part 8 = .ok (.goto 16, 3) := by decide +kernel
theorem dX12_part_11 : decode cX12_part 11 = .ok (.iload_n 2, 1) := by decide +kernel
theorem dX12_part_12 : decode cX12_part 12 = .ok (.iconst 1, 1) := by decide +kernel
theorem dX12_part_13 : decode cX12_part 13 = .ok (.if_icmp .ne 10, 3) := by decide +kernel
theorem dX12_part_16 : decode cX12_part 16 = .ok (.lload_n 0, 1) := by decide +kernel
theorem dX12_part_17 : decode cX12_part 17 = .ok (.bipush 20, 2) := by decide +kernel
theorem dX12_part_19 : decode cX12_part 19 = .ok (.lshr, 1) := by decide +kernel
theorem dX12_part_20 : decode cX12_part 20 = .ok (.goto 4, 3) := by decide +kernel
theorem dX12_part_23 : decode cX12_part 23 = .ok (.lload_n 0, 1) := by decide +kernel
theorem dX12_part_24 : decode cX12_part 24 = .ok (.lstore_n 3, 1) := by decide +kernel
theorem dX12_part_25 : decode cX12_part 25 = .ok (.lload_n 3, 1) := by decide +kernel
theorem dX12_part_26 : decode cX12_part 26 = .ok (.ldc2_w 223, 3) := by decide +kernel
theorem dX12_part_29 : decode cX12_part 29 = .ok (.land, 1) := by decide +kernel
theorem dX12_part_30 : decode cX12_part 30 = .ok (.l2i, 1) := by decide +kernel
theorem dX12_part_31 : decode cX12_part 31 = .ok (.ldc 225, 2) := by decide +kernel
theorem dX12_part_33 : decode cX12_part 33 = .ok (.isub, 1) := by decide +kernel
theorem dX12_part_34 : decode cX12_part 34 = .ok (.ireturn, 1) := by decide +kernel
theorem dX12_addEqual_0 : decode cX12_addEqual 0 = .ok (.iconst 0, 1) := by decide +kernel
theorem dX12_addEqual_1 : decode cX12_addEqual 1 = .ok (.istore_n 3, 1) := by decide +kernel
theorem dX12_addEqual_2 : decode cX12_addEqual 2 = .ok (.iconst 0, 1) := by decide +kernel
theorem dX12_addEqual_3 : decode cX12_addEqual 3 = .ok (.istore 4, 2) := by decide +kernel
theorem dX12_addEqual_5 : decode cX12_addEqual 5 = .ok (.iload 4, 2) := by decide +kernel
theorem dX12_addEqual_7 : decode cX12_addEqual 7 = .ok (.aload_n 0, 1) := by decide +kernel
theorem dX12_addEqual_8 : decode cX12_addEqual 8 = .ok (.getfield 226, 3) := by decide +kernel
theorem dX12_addEqual_11 : decode cX12_addEqual 11 = .ok (.if_icmp .ge 31, 3) := by decide +kernel
theorem dX12_addEqual_14 : decode cX12_addEqual 14 = .ok (.iload_n 3, 1) := by decide +kernel
theorem dX12_addEqual_15 : decode cX12_addEqual 15 = .ok (.ifCond .ne 27, 3) := by decide +kernel
theorem dX12_addEqual_18 : decode cX12_addEqual 18 = .ok (.aload_n 0, 1) := by decide +kernel
theorem dX12_addEqual_19 : decode cX12_addEqual 19 = .ok (.getfield 38, 3) := by decide +kernel
theorem dX12_addEqual_22 : decode cX12_addEqual 22 = .ok (.iload 4, 2) := by decide +kernel
theorem dX12_addEqual_24 : decode cX12_addEqual 24 = .ok (.laload, 1) := by decide +kernel
theorem dX12_addEqual_25 : decode cX12_addEqual 25 = .ok (.lload_n 1, 1) := by decide +kernel
theorem dX12_addEqual_26 : decode cX12_addEqual 26 = .ok (.lcmp, 1) := by decide +kernel
theorem dX12_addEqual_27 : decode cX12_addEqual 27 = .ok (.ifCond .ne 7, 3) := by decide +kernel
theorem dX12_addEqual_30 : decode cX12_addEqual 30 = .ok (.iconst 1, 1) := by decide +kernel
theorem dX12_addEqual_31 : decode cX12_addEqual 31 = .ok (.goto 4, 3) := by decide +kernel
theorem dX12_addEqual_34 : decode cX12_addEqual 34 = .ok (.iconst 0, 1) := by decide +kernel
theorem dX12_addEqual_35 : decode cX12_addEqual 35 = .ok (.istore_n 3, 1) := by decide +kernel
theorem dX12_addEqual_36 : decode cX12_addEqual 36 = .ok (.iinc 4 1, 3) := by decide +kernel
theorem dX12_addEqual_39 : decode cX12_addEqual 39 = .ok (.goto (-34), 3) := by decide +kernel
theorem dX12_addEqual_42 : decode cX12_addEqual 42 = .ok (.iload_n 3, 1) := by decide +kernel
theorem dX12_addEqual_43 : decode cX12_addEqual 43 = .ok (.ifCond .ne 23, 3) := by decide +kernel
theorem dX12_addEqual_46 : decode cX12_addEqual 46 = .ok (.aload_n 0, 1) := by decide +kernel
theorem dX12_addEqual_47 : decode cX12_addEqual 47 = .ok (.getfield 38, 3) := by decide +kernel
theorem dX12_addEqual_50 : decode cX12_addEqual 50 = .ok (.aload_n 0, 1) := by decide +kernel
theorem dX12_addEqual_51 : decode cX12_addEqual 51 = .ok (.getfield 226, 3) := by decide +kernel
theorem dX12_addEqual_54 : decode cX12_addEqual 54 = .ok (.lload_n 1, 1) := by decide +kernel
theorem dX12_addEqual_55 : decode cX12_addEqual 55 = .ok (.lastore, 1) := by decide +kernel
theorem dX12_addEqual_56 : decode cX12_addEqual 56 = .ok (.aload_n 0, 1) := by decide +kernel
theorem dX12_addEqual_57 : decode cX12_addEqual 57 = .ok (.dup, 1) := by decide +kernel
theorem dX12_addEqual_58 : decode cX12_addEqual 58 = .ok (.getfield 226, 3) := by decide +kernel
theorem dX12_addEqual_61 : decode cX12_addEqual 61 = .ok (.iconst 1, 1) := by decide +kernel
theorem dX12_addEqual_62 : decode cX12_addEqual 62 = .ok (.iadd, 1) := by decide +kernel
theorem dX12_addEqual_63 : decode cX12_addEqual 63 = .ok (.putfield 226, 3) := by decide +kernel
theorem dX12_addEqual_66 : decode cX12_addEqual 66 = .ok (.return_, 1) := by decide +kernel
theorem dX12_greatestOf_0 : decode cX12_greatestOf 0 = .ok (.iload_n 1, 1) := by decide +kernel
theorem dX12_greatestOf_1 : decode cX12_greatestOf 1 = .ok (.iload_n 2, 1) := by decide +kernel
theorem dX12_greatestOf_2 : decode cX12_greatestOf 2 = .ok (.iload_n 3, 1) := by decide +kernel
theorem dX12_greatestOf_3 : decode cX12_greatestOf 3 = .ok (.invokestatic 229, 3) := by decide +kernel
theorem dX12_greatestOf_6 : decode cX12_greatestOf 6 = .ok (.lstore 4, 2) := by decide +kernel
theorem dX12_greatestOf_8 : decode cX12_greatestOf 8 = .ok (.iconst 0, 1) := by decide +kernel
theorem dX12_greatestOf_9 : decode cX12_greatestOf 9 = .ok (.istore 6, 2) := by decide +kernel
theorem dX12_greatestOf_11 : decode cX12_greatestOf 11 = .ok (.iload 6, 2) := by decide +kernel
theorem dX12_greatestOf_13 : decode cX12_greatestOf 13 = .ok (.aload_n 0, 1) := by decide +kernel
theorem dX12_greatestOf_14 : decode cX12_greatestOf 14 = .ok (.getfield 183, 3) := by decide +kernel
theorem dX12_greatestOf_17 : decode cX12_greatestOf 17 = .ok (.if_icmp .ge 104, 3) := by decide +kernel
theorem dX12_greatestOf_20 : decode cX12_greatestOf 20 = .ok (.aload_n 0, 1) := by decide +kernel
theorem dX12_greatestOf_21 : decode cX12_greatestOf 21 = .ok (.iload 6, 2) := by decide +kernel
theorem dX12_greatestOf_23 : decode cX12_greatestOf 23 = .ok (.iload_n 1, 1) := by decide +kernel
theorem dX12_greatestOf_24 : decode cX12_greatestOf 24 = .ok (.iload_n 2, 1) := by decide +kernel
theorem dX12_greatestOf_25 : decode cX12_greatestOf 25 = .ok (.iload_n 3, 1) := by decide +kernel
theorem dX12_greatestOf_26 : decode cX12_greatestOf 26 = .ok (.iconst 0, 1) := by decide +kernel
theorem dX12_greatestOf_27 : decode cX12_greatestOf 27 = .ok (.invokevirtual 212, 3) := by decide +kernel
theorem dX12_greatestOf_30 : decode cX12_greatestOf 30 = .ok (.istore 7, 2) := by decide +kernel
theorem dX12_greatestOf_32 : decode cX12_greatestOf 32 = .ok (.aload_n 0, 1) := by decide +kernel
theorem dX12_greatestOf_33 : decode cX12_greatestOf 33 = .ok (.iload 6, 2) := by decide +kernel
theorem dX12_greatestOf_35 : decode cX12_greatestOf 35 = .ok (.iload_n 1, 1) := by decide +kernel
theorem dX12_greatestOf_36 : decode cX12_greatestOf 36 = .ok (.iload_n 2, 1) := by decide +kernel
theorem dX12_greatestOf_37 : decode cX12_greatestOf 37 = .ok (.iload_n 3, 1) := by decide +kernel
theorem dX12_greatestOf_38 : decode cX12_greatestOf 38 = .ok (.iconst 1, 1) := by decide +kernel
theorem dX12_greatestOf_39 : decode cX12_greatestOf 39 = .ok (.invokevirtual 212, 3) := by decide +kernel
theorem dX12_greatestOf_42 : decode cX12_greatestOf 42 = .ok (.istore 8, 2) := by decide +kernel
theorem dX12_greatestOf_44 : decode cX12_greatestOf 44 = .ok (.aload_n 0, 1) := by decide +kernel
theorem dX12_greatestOf_45 : decode cX12_greatestOf 45 = .ok (.iload 6, 2) := by decide +kernel
theorem dX12_greatestOf_47 : decode cX12_greatestOf 47 = .ok (.iload_n 1, 1) := by decide +kernel
theorem dX12_greatestOf_48 : decode cX12_greatestOf 48 = .ok (.iload_n 2, 1) := by decide +kernel
theorem dX12_greatestOf_49 : decode cX12_greatestOf 49 = .ok (.iload_n 3, 1) := by decide +kernel
theorem dX12_greatestOf_50 : decode cX12_greatestOf 50 = .ok (.iconst 2, 1) := by decide +kernel
theorem dX12_greatestOf_51 : decode cX12_greatestOf 51 = .ok (.invokevirtual 212, 3) := by decide +kernel
theorem dX12_greatestOf_54 : decode cX12_greatestOf 54 = .ok (.istore 9, 2) := by decide +kernel
theorem dX12_greatestOf_56 : decode cX12_greatestOf 56 = .ok (.iload 7, 2) := by decide +kernel
theorem dX12_greatestOf_58 : decode cX12_greatestOf 58 = .ok (.iload 8, 2) := by decide +kernel
theorem dX12_greatestOf_60 : decode cX12_greatestOf 60 = .ok (.iload 9, 2) := by decide +kernel
theorem dX12_greatestOf_62 : decode cX12_greatestOf 62 = .ok (.invokestatic 229, 3) := by decide +kernel
theorem dX12_greatestOf_65 : decode cX12_greatestOf 65 = .ok (.lstore 10, 2) := by decide +kernel
theorem dX12_greatestOf_67 : decode cX12_greatestOf 67 = .ok (.iload 7, 2) := by decide +kernel
theorem dX12_greatestOf_69 : decode cX12_greatestOf 69 = .ok (.ineg, 1) := by decide +kernel
theorem dX12_greatestOf_70 : decode cX12_greatestOf 70 = .ok (.iload 8, 2) := by decide +kernel
theorem dX12_greatestOf_72 : decode cX12_greatestOf 72 = .ok (.ineg, 1) := by decide +kernel
theorem dX12_greatestOf_73 : decode cX12_greatestOf 73 = .ok (.iload 9, 2) := by decide +kernel
theorem dX12_greatestOf_75 : decode cX12_greatestOf 75 = .ok (.ineg, 1) := by decide +kernel
theorem dX12_greatestOf_76 : decode cX12_greatestOf 76 = .ok (.invokestatic 229, 3) := by decide +kernel
theorem dX12_greatestOf_79 : decode cX12_greatestOf 79 = .ok (.lstore 12, 2) := by decide +kernel
theorem dX12_greatestOf_81 : decode cX12_greatestOf 81 = .ok (.lload 10, 2) := by decide +kernel
theorem dX12_greatestOf_83 : decode cX12_greatestOf 83 = .ok (.lload 4, 2) := by decide +kernel
theorem dX12_greatestOf_85 : decode cX12_greatestOf 85 = .ok (.lcmp, 1) := by decide +kernel
theorem dX12_greatestOf_86 : decode cX12_greatestOf 86 = .ok (.ifCond .le 8, 3) := by decide +kernel
theorem dX12_greatestOf_89 : decode cX12_greatestOf 89 = .ok (.lload 10, 2) := by decide +kernel
theorem dX12_greatestOf_91 : decode cX12_greatestOf 91 = .ok (.goto 5, 3) := by decide +kernel
theorem dX12_greatestOf_94 : decode cX12_greatestOf 94 = .ok (.lload 4, 2) := by decide +kernel
theorem dX12_greatestOf_96 : decode cX12_greatestOf 96 = .ok (.lstore 4, 2) := by decide +kernel
theorem dX12_greatestOf_98 : decode cX12_greatestOf 98 = .ok (.lload 12, 2) := by decide +kernel
theorem dX12_greatestOf_100 : decode cX12_greatestOf 100 = .ok (.lload 4, 2) := by decide +kernel
theorem dX12_greatestOf_102 : decode cX12_greatestOf 102 = .ok (.lcmp, 1) := by decide +kernel
theorem dX12_greatestOf_103 : decode cX12_greatestOf 103 = .ok (.ifCond .le 8, 3) := by decide +kernel
theorem dX12_greatestOf_106 : decode cX12_greatestOf 106 = .ok (.lload 12, 2) := by decide +kernel
theorem dX12_greatestOf_108 : decode cX12_greatestOf 108 = .ok (.goto 5, 3) := by decide +kernel
theorem dX12_greatestOf_111 : decode cX12_greatestOf 111 = .ok (.lload 4, 2) := by decide +kernel
theorem dX12_greatestOf_113 : decode cX12_greatestOf 113 = .ok (.lstore 4, 2) := by decide +kernel
theorem dX12_greatestOf_115 : decode cX12_greatestOf 115 = .ok (.iinc 6 1, 3) := by decide +kernel
theorem dX12_greatestOf_118 : decode cX12_greatestOf 118 = .ok (.goto (-107), 3) := by decide +kernel
theorem dX12_greatestOf_121 : decode cX12_greatestOf 121 = .ok (.lload 4, 2) := by decide +kernel
theorem dX12_greatestOf_123 : decode cX12_greatestOf 123 = .ok (.lreturn, 1) := by decide +kernel
theorem dX12_multiplicity_0 : decode cX12_multiplicity 0 = .ok (.aload_n 0, 1) := by decide +kernel
theorem dX12_multiplicity_1 : decode cX12_multiplicity 1 = .ok (.iconst 0, 1) := by decide +kernel
theorem dX12_multiplicity_2 : decode cX12_multiplicity 2 = .ok (.putfield 226, 3) := by decide +kernel
theorem dX12_multiplicity_5 : decode cX12_multiplicity 5 = .ok (.iconst 0, 1) := by decide +kernel
theorem dX12_multiplicity_6 : decode cX12_multiplicity 6 = .ok (.istore 4, 2) := by decide +kernel
theorem dX12_multiplicity_8 : decode cX12_multiplicity 8 = .ok (.iload 4, 2) := by decide +kernel
theorem dX12_multiplicity_10 : decode cX12_multiplicity 10 = .ok (.aload_n 0, 1) := by decide +kernel
theorem dX12_multiplicity_11 : decode cX12_multiplicity 11 = .ok (.getfield 183, 3) := by decide +kernel
theorem dX12_multiplicity_14 : decode cX12_multiplicity 14 = .ok (.if_icmp .ge 74, 3) := by decide +kernel
theorem dX12_multiplicity_17 : decode cX12_multiplicity 17 = .ok (.aload_n 0, 1) := by decide +kernel
theorem dX12_multiplicity_18 : decode cX12_multiplicity 18 = .ok (.iload 4, 2) := by decide +kernel
theorem dX12_multiplicity_20 : decode cX12_multiplicity 20 = .ok (.iload_n 1, 1) := by decide +kernel
theorem dX12_multiplicity_21 : decode cX12_multiplicity 21 = .ok (.iload_n 2, 1) := by decide +kernel
theorem dX12_multiplicity_22 : decode cX12_multiplicity 22 = .ok (.iload_n 3, 1) := by decide +kernel
theorem dX12_multiplicity_23 : decode cX12_multiplicity 23 = .ok (.iconst 0, 1) := by decide +kernel
theorem dX12_multiplicity_24 : decode cX12_multiplicity 24 = .ok (.invokevirtual 212, 3) := by decide +kernel
theorem dX12_multiplicity_27 : decode cX12_multiplicity 27 = .ok (.istore 5, 2) := by decide +kernel
theorem dX12_multiplicity_29 : decode cX12_multiplicity 29 = .ok (.aload_n 0, 1) := by decide +kernel
theorem dX12_multiplicity_30 : decode cX12_multiplicity 30 = .ok (.iload 4, 2) := by decide +kernel
theorem dX12_multiplicity_32 : decode cX12_multiplicity 32 = .ok (.iload_n 1, 1) := by decide +kernel
theorem dX12_multiplicity_33 : decode cX12_multiplicity 33 = .ok (.iload_n 2, 1) := by decide +kernel
theorem dX12_multiplicity_34 : decode cX12_multiplicity 34 = .ok (.iload_n 3, 1) := by decide +kernel
theorem dX12_multiplicity_35 : decode cX12_multiplicity 35 = .ok (.iconst 1, 1) := by decide +kernel
theorem dX12_multiplicity_36 : decode cX12_multiplicity 36 = .ok (.invokevirtual 212, 3) := by decide +kernel
theorem dX12_multiplicity_39 : decode cX12_multiplicity 39 = .ok (.istore 6, 2) := by decide +kernel
theorem dX12_multiplicity_41 : decode cX12_multiplicity 41 = .ok (.aload_n 0, 1) := by decide +kernel
theorem dX12_multiplicity_42 : decode cX12_multiplicity 42 = .ok (.iload 4, 2) := by decide +kernel
theorem dX12_multiplicity_44 : decode cX12_multiplicity 44 = .ok (.iload_n 1, 1) := by decide +kernel
theorem dX12_multiplicity_45 : decode cX12_multiplicity 45 = .ok (.iload_n 2, 1) := by decide +kernel
theorem dX12_multiplicity_46 : decode cX12_multiplicity 46 = .ok (.iload_n 3, 1) := by decide +kernel
theorem dX12_multiplicity_47 : decode cX12_multiplicity 47 = .ok (.iconst 2, 1) := by decide +kernel
theorem dX12_multiplicity_48 : decode cX12_multiplicity 48 = .ok (.invokevirtual 212, 3) := by decide +kernel
theorem dX12_multiplicity_51 : decode cX12_multiplicity 51 = .ok (.istore 7, 2) := by decide +kernel
theorem dX12_multiplicity_53 : decode cX12_multiplicity 53 = .ok (.aload_n 0, 1) := by decide +kernel
theorem dX12_multiplicity_54 : decode cX12_multiplicity 54 = .ok (.iload 5, 2) := by decide +kernel
theorem dX12_multiplicity_56 : decode cX12_multiplicity 56 = .ok (.iload 6, 2) := by decide +kernel
theorem dX12_multiplicity_58 : decode cX12_multiplicity 58 = .ok (.iload 7, 2) := by decide +kernel
theorem dX12_multiplicity_60 : decode cX12_multiplicity 60 = .ok (.invokestatic 229, 3) := by decide +kernel
theorem dX12_multiplicity_63 : decode cX12_multiplicity 63 = .ok (.invokevirtual 233, 3) := by decide +kernel
theorem dX12_multiplicity_66 : decode cX12_multiplicity 66 = .ok (.aload_n 0, 1) := by decide +kernel
theorem dX12_multiplicity_67 : decode cX12_multiplicity 67 = .ok (.iload 5, 2) := by decide +kernel
theorem dX12_multiplicity_69 : decode cX12_multiplicity 69 = .ok (.ineg, 1) := by decide +kernel
theorem dX12_multiplicity_70 : decode cX12_multiplicity 70 = .ok (.iload 6, 2) := by decide +kernel
theorem dX12_multiplicity_72 : decode cX12_multiplicity 72 = .ok (.ineg, 1) := by decide +kernel
theorem dX12_multiplicity_73 : decode cX12_multiplicity 73 = .ok (.iload 7, 2) := by decide +kernel
theorem dX12_multiplicity_75 : decode cX12_multiplicity 75 = .ok (.ineg, 1) := by decide +kernel
theorem dX12_multiplicity_76 : decode cX12_multiplicity 76 = .ok (.invokestatic 229, 3) := by decide +kernel
theorem dX12_multiplicity_79 : decode cX12_multiplicity 79 = .ok (.invokevirtual 233, 3) := by decide +kernel
theorem dX12_multiplicity_82 : decode cX12_multiplicity 82 = .ok (.iinc 4 1, 3) := by decide +kernel
theorem dX12_multiplicity_85 : decode cX12_multiplicity 85 = .ok (.goto (-77), 3) := by decide +kernel
theorem dX12_multiplicity_88 : decode cX12_multiplicity 88 = .ok (.aload_n 0, 1) := by decide +kernel
theorem dX12_multiplicity_89 : decode cX12_multiplicity 89 = .ok (.getfield 226, 3) := by decide +kernel
theorem dX12_multiplicity_92 : decode cX12_multiplicity 92 = .ok (.ireturn, 1) := by decide +kernel
theorem dX12_greatest_0 : decode cX12_greatest 0 = .ok (.aload_n 0, 1) := by decide +kernel
theorem dX12_greatest_1 : decode cX12_greatest 1 = .ok (.aload_n 0, 1) := by decide +kernel
theorem dX12_greatest_2 : decode cX12_greatest 2 = .ok (.getfield 183, 3) := by decide +kernel
theorem dX12_greatest_5 : decode cX12_greatest 5 = .ok (.ifCond .ne 7, 3) := by decide +kernel
theorem dX12_greatest_8 : decode cX12_greatest 8 = .ok (.iconst 1, 1) := by decide +kernel
theorem dX12_greatest_9 : decode cX12_greatest 9 = .ok (.goto 31, 3) := by decide +kernel
theorem dX12_greatest_12 : decode cX12_greatest 12 = .ok (.iload_n 1, 1) := by decide +kernel
theorem dX12_greatest_13 : decode cX12_greatest 13 = .ok (.iload_n 2, 1) := by decide +kernel
theorem dX12_greatest_14 : decode cX12_greatest 14 = .ok (.iload_n 3, 1) := by decide +kernel
theorem dX12_greatest_15 : decode cX12_greatest 15 = .ok (.invokestatic 205, 3) := by decide +kernel
theorem dX12_greatest_18 : decode cX12_greatest 18 = .ok (.ifCond .ne 7, 3) := by decide +kernel
theorem dX12_greatest_21 : decode cX12_greatest 21 = .ok (.iconst 2, 1) := by decide +kernel
theorem dX12_greatest_22 : decode cX12_greatest 22 = .ok (.goto 18, 3) := by decide +kernel
theorem dX12_greatest_25 : decode cX12_greatest 25 = .ok (.iload 4, 2) := by decide +kernel
theorem dX12_greatest_27 : decode cX12_greatest 27 = .ok (.iconst 0, 1) := by decide +kernel
theorem dX12_greatest_28 : decode cX12_greatest 28 = .ok (.iconst 3, 1) := by decide +kernel
theorem dX12_greatest_29 : decode cX12_greatest 29 = .ok (.invokestatic 96, 3) := by decide +kernel
theorem dX12_greatest_32 : decode cX12_greatest 32 = .ok (.ifCond .ne 7, 3) := by decide +kernel
theorem dX12_greatest_35 : decode cX12_greatest 35 = .ok (.iconst 3, 1) := by decide +kernel
theorem dX12_greatest_36 : decode cX12_greatest 36 = .ok (.goto 4, 3) := by decide +kernel
theorem dX12_greatest_39 : decode cX12_greatest 39 = .ok (.iconst 0, 1) := by decide +kernel
theorem dX12_greatest_40 : decode cX12_greatest 40 = .ok (.putfield 85, 3) := by decide +kernel
theorem dX12_greatest_43 : decode cX12_greatest 43 = .ok (.aload_n 0, 1) := by decide +kernel
theorem dX12_greatest_44 : decode cX12_greatest 44 = .ok (.getfield 85, 3) := by decide +kernel
theorem dX12_greatest_47 : decode cX12_greatest 47 = .ok (.ifCond .le 7, 3) := by decide +kernel
theorem dX12_greatest_50 : decode cX12_greatest 50 = .ok (.iconst 0, 1) := by decide +kernel
theorem dX12_greatest_51 : decode cX12_greatest 51 = .ok (.goto 31, 3) := by decide +kernel
theorem dX12_greatest_54 : decode cX12_greatest 54 = .ok (.iload 4, 2) := by decide +kernel
theorem dX12_greatest_56 : decode cX12_greatest 56 = .ok (.iconst 3, 1) := by decide +kernel
theorem dX12_greatest_57 : decode cX12_greatest 57 = .ok (.if_icmp .ne 13, 3) := by decide +kernel
theorem dX12_greatest_60 : decode cX12_greatest 60 = .ok (.aload_n 0, 1) := by decide +kernel
theorem dX12_greatest_61 : decode cX12_greatest 61 = .ok (.iload_n 1, 1) := by decide +kernel
theorem dX12_greatest_62 : decode cX12_greatest 62 = .ok (.iload_n 2, 1) := by decide +kernel
theorem dX12_greatest_63 : decode cX12_greatest 63 = .ok (.iload_n 3, 1) := by decide +kernel
theorem dX12_greatest_64 : decode cX12_greatest 64 = .ok (.invokevirtual 237, 3) := by decide +kernel
theorem dX12_greatest_67 : decode cX12_greatest 67 = .ok (.goto 15, 3) := by decide +kernel
theorem dX12_greatest_70 : decode cX12_greatest 70 = .ok (.aload_n 0, 1) := by decide +kernel
theorem dX12_greatest_71 : decode cX12_greatest 71 = .ok (.iload_n 1, 1) := by decide +kernel
theorem dX12_greatest_72 : decode cX12_greatest 72 = .ok (.iload_n 2, 1) := by decide +kernel
theorem dX12_greatest_73 : decode cX12_greatest 73 = .ok (.iload_n 3, 1) := by decide +kernel
theorem dX12_greatest_74 : decode cX12_greatest 74 = .ok (.invokevirtual 241, 3) := by decide +kernel
theorem dX12_greatest_77 : decode cX12_greatest 77 = .ok (.iload 4, 2) := by decide +kernel
theorem dX12_greatest_79 : decode cX12_greatest 79 = .ok (.invokestatic 244, 3) := by decide +kernel
theorem dX12_greatest_82 : decode cX12_greatest 82 = .ok (.ireturn, 1) := by decide +kernel
theorem dX12_isDigit_0 : decode cX12_isDigit 0 = .ok (.iload_n 0, 1) := by decide +kernel
theorem dX12_isDigit_1 : decode cX12_isDigit 1 = .ok (.bipush 48, 2) := by decide +kernel
theorem dX12_isDigit_3 : decode cX12_isDigit 3 = .ok (.if_icmp .lt 13, 3) := by decide +kernel
theorem dX12_isDigit_6 : decode cX12_isDigit 6 = .ok (.iload_n 0, 1) := by decide +kernel
theorem dX12_isDigit_7 : decode cX12_isDigit 7 = .ok (.bipush 57, 2) := by decide +kernel
theorem dX12_isDigit_9 : decode cX12_isDigit 9 = .ok (.if_icmp .gt 7, 3) := by decide +kernel
theorem dX12_isDigit_12 : decode cX12_isDigit 12 = .ok (.iconst 1, 1) := by decide +kernel
theorem dX12_isDigit_13 : decode cX12_isDigit 13 = .ok (.goto 4, 3) := by decide +kernel
theorem dX12_isDigit_16 : decode cX12_isDigit 16 = .ok (.iconst 0, 1) := by decide +kernel
theorem dX12_isDigit_17 : decode cX12_isDigit 17 = .ok (.ireturn, 1) := by decide +kernel
theorem dX12_column_0 : decode cX12_column 0 = .ok (.aload_n 0, 1) := by decide +kernel
theorem dX12_column_1 : decode cX12_column 1 = .ok (.iconst 0, 1) := by decide +kernel
theorem dX12_column_2 : decode cX12_column 2 = .ok (.putfield 248, 3) := by decide +kernel
theorem dX12_column_5 : decode cX12_column 5 = .ok (.aload_n 0, 1) := by decide +kernel
theorem dX12_column_6 : decode cX12_column 6 = .ok (.iconst 0, 1) := by decide +kernel
theorem dX12_column_7 : decode cX12_column 7 = .ok (.putfield 251, 3) := by decide +kernel
theorem dX12_column_10 : decode cX12_column 10 = .ok (.iconst 0, 1) := by decide +kernel
theorem dX12_column_11 : decode cX12_column 11 = .ok (.istore_n 3, 1) := by decide +kernel
theorem dX12_column_12 : decode cX12_column 12 = .ok (.iconst 0, 1) := by decide +kernel
theorem dX12_column_13 : decode cX12_column 13 = .ok (.istore 4, 2) := by decide +kernel
theorem dX12_column_15 : decode cX12_column 15 = .ok (.iload 4, 2) := by decide +kernel
theorem dX12_column_17 : decode cX12_column 17 = .ok (.iload_n 1, 1) := by decide +kernel
theorem dX12_column_18 : decode cX12_column 18 = .ok (.if_icmp .ge 193, 3) := by decide +kernel
theorem dX12_column_21 : decode cX12_column 21 = .ok (.aload_n 0, 1) := by decide +kernel
theorem dX12_column_22 : decode cX12_column 22 = .ok (.invokevirtual 110, 3) := by decide +kernel
theorem dX12_column_25 : decode cX12_column 25 = .ok (.istore 5, 2) := by decide +kernel
theorem dX12_column_27 : decode cX12_column 27 = .ok (.iload 5, 2) := by decide +kernel
theorem dX12_column_29 : decode cX12_column 29 = .ok (.invokestatic 255, 3) := by decide +kernel
theorem dX12_column_32 : decode cX12_column 32 = .ok (.istore 6, 2) := by decide +kernel
theorem dX12_column_34 : decode cX12_column 34 = .ok (.iload 4, 2) := by decide +kernel
theorem dX12_column_36 : decode cX12_column 36 = .ok (.iload_n 1, 1) := by decide +kernel
theorem dX12_column_37 : decode cX12_column 37 = .ok (.iconst 1, 1) := by decide +kernel
theorem dX12_column_38 : decode cX12_column 38 = .ok (.isub, 1) := by decide +kernel
theorem dX12_column_39 : decode cX12_column 39 = .ok (.if_icmp .ne 7, 3) := by decide +kernel
theorem dX12_column_42 : decode cX12_column 42 = .ok (.iconst 1, 1) := by decide +kernel
theorem dX12_column_43 : decode cX12_column 43 = .ok (.goto 4, 3) := by decide +kernel
theorem dX12_column_46 : decode cX12_column 46 = .ok (.iconst 0, 1) := by decide +kernel
theorem dX12_column_47 : decode cX12_column 47 = .ok (.istore 7, 2) := by decide +kernel
theorem dX12_column_49 : decode cX12_column 49 = .ok (.iload 5, 2) := by decide +kernel
theorem dX12_column_51 : decode cX12_column 51 = .ok (.bipush 32, 2) := by decide +kernel
theorem dX12_column_53 : decode cX12_column 53 = .ok (.if_icmp .ne 23, 3) := by decide +kernel
theorem dX12_column_56 : decode cX12_column 56 = .ok (.iload_n 3, 1) := by decide +kernel
theorem dX12_column_57 : decode cX12_column 57 = .ok (.ifCond .ne 19, 3) := by decide +kernel
theorem dX12_column_60 : decode cX12_column 60 = .ok (.aload_n 0, 1) := by decide +kernel
theorem dX12_column_61 : decode cX12_column 61 = .ok (.getfield 251, 3) := by decide +kernel
theorem dX12_column_64 : decode cX12_column 64 = .ok (.ifCond .ne 12, 3) := by decide +kernel
theorem dX12_column_67 : decode cX12_column 67 = .ok (.iload 7, 2) := by decide +kernel
theorem dX12_column_69 : decode cX12_column 69 = .ok (.ifCond .ne 7, 3) := by decide +kernel
theorem dX12_column_72 : decode cX12_column 72 = .ok (.iconst 1, 1) := by decide +kernel
theorem dX12_column_73 : decode cX12_column 73 = .ok (.goto 4, 3) := by decide +kernel
theorem dX12_column_76 : decode cX12_column 76 = .ok (.iconst 0, 1) := by decide +kernel
theorem dX12_column_77 : decode cX12_column 77 = .ok (.istore 8, 2) := by decide +kernel
theorem dX12_column_79 : decode cX12_column 79 = .ok (.iload 5, 2) := by decide +kernel
theorem dX12_column_81 : decode cX12_column 81 = .ok (.bipush 45, 2) := by decide +kernel
theorem dX12_column_83 : decode cX12_column 83 = .ok (.if_icmp .ne 27, 3) := by decide +kernel
theorem dX12_column_86 : decode cX12_column 86 = .ok (.iload_n 2, 1) := by decide +kernel
theorem dX12_column_87 : decode cX12_column 87 = .ok (.ifCond .eq 23, 3) := by decide +kernel
theorem dX12_column_90 : decode cX12_column 90 = .ok (.iload_n 3, 1) := by decide +kernel
theorem dX12_column_91 : decode cX12_column 91 = .ok (.ifCond .ne 19, 3) := by decide +kernel
theorem dX12_column_94 : decode cX12_column 94 = .ok (.aload_n 0, 1) := by decide +kernel
theorem dX12_column_95 : decode cX12_column 95 = .ok (.getfield 251, 3) := by decide +kernel
theorem dX12_column_98 : decode cX12_column 98 = .ok (.ifCond .ne 12, 3) := by decide +kernel
theorem dX12_column_101 : decode cX12_column 101 = .ok (.iload 7, 2) := by decide +kernel
theorem dX12_column_103 : decode cX12_column 103 = .ok (.ifCond .ne 7, 3) := by decide +kernel
theorem dX12_column_106 : decode cX12_column 106 = .ok (.iconst 1, 1) := by decide +kernel
theorem dX12_column_107 : decode cX12_column 107 = .ok (.goto 4, 3) := by decide +kernel
theorem dX12_column_110 : decode cX12_column 110 = .ok (.iconst 0, 1) := by decide +kernel
theorem dX12_column_111 : decode cX12_column 111 = .ok (.istore 9, 2) := by decide +kernel
theorem dX12_column_113 : decode cX12_column 113 = .ok (.iload 6, 2) := by decide +kernel
theorem dX12_column_115 : decode cX12_column 115 = .ok (.ifCond .ne 15, 3) := by decide +kernel
theorem dX12_column_118 : decode cX12_column 118 = .ok (.iload 8, 2) := by decide +kernel
theorem dX12_column_120 : decode cX12_column 120 = .ok (.ifCond .ne 10, 3) := by decide +kernel
theorem dX12_column_123 : decode cX12_column 123 = .ok (.iload 9, 2) := by decide +kernel
theorem dX12_column_125 : decode cX12_column 125 = .ok (.ifCond .ne 5, 3) := by decide +kernel
theorem dX12_column_128 : decode cX12_column 128 = .ok (.iconst 0, 1) := by decide +kernel
theorem dX12_column_129 : decode cX12_column 129 = .ok (.ireturn, 1) := by decide +kernel
theorem dX12_column_130 : decode cX12_column 130 = .ok (.iload_n 3, 1) := by decide +kernel
theorem dX12_column_131 : decode cX12_column 131 = .ok (.ifCond .ne 8, 3) := by decide +kernel
theorem dX12_column_134 : decode cX12_column 134 = .ok (.iload 6, 2) := by decide +kernel
theorem dX12_column_136 : decode cX12_column 136 = .ok (.ifCond .eq 7, 3) := by decide +kernel
theorem dX12_column_139 : decode cX12_column 139 = .ok (.iconst 1, 1) := by decide +kernel
theorem dX12_column_140 : decode cX12_column 140 = .ok (.goto 4, 3) := by decide +kernel
theorem dX12_column_143 : decode cX12_column 143 = .ok (.iconst 0, 1) := by decide +kernel
theorem dX12_column_144 : decode cX12_column 144 = .ok (.istore_n 3, 1) := by decide +kernel
theorem dX12_column_145 : decode cX12_column 145 = .ok (.aload_n 0, 1) := by decide +kernel
theorem dX12_column_146 : decode cX12_column 146 = .ok (.aload_n 0, 1) := by decide +kernel
theorem dX12_column_147 : decode cX12_column 147 = .ok (.getfield 251, 3) := by decide +kernel
theorem dX12_column_150 : decode cX12_column 150 = .ok (.ifCond .ne 8, 3) := by decide +kernel
theorem dX12_column_153 : decode cX12_column 153 = .ok (.iload 9, 2) := by decide +kernel
theorem dX12_column_155 : decode cX12_column 155 = .ok (.ifCond .eq 7, 3) := by decide +kernel
theorem dX12_column_158 : decode cX12_column 158 = .ok (.iconst 1, 1) := by decide +kernel
theorem dX12_column_159 : decode cX12_column 159 = .ok (.goto 4, 3) := by decide +kernel
theorem dX12_column_162 : decode cX12_column 162 = .ok (.iconst 0, 1) := by decide +kernel
theorem dX12_column_163 : decode cX12_column 163 = .ok (.putfield 251, 3) := by decide +kernel
theorem dX12_column_166 : decode cX12_column 166 = .ok (.aload_n 0, 1) := by decide +kernel
theorem dX12_column_167 : decode cX12_column 167 = .ok (.iload 6, 2) := by decide +kernel
theorem dX12_column_169 : decode cX12_column 169 = .ok (.ifCond .eq 19, 3) := by decide +kernel
theorem dX12_column_172 : decode cX12_column 172 = .ok (.bipush 10, 2) := by decide +kernel
theorem dX12_column_174 : decode cX12_column 174 = .ok (.aload_n 0, 1) := by decide +kernel
theorem dX12_column_175 : decode cX12_column 175 = .ok (.getfield 248, 3) := by decide +kernel
theorem dX12_column_178 : decode cX12_column 178 = .ok (.imul, 1) := by decide +kernel
theorem dX12_column_179 : decode cX12_column 179 = .ok (.iload 5, 2) := by decide +kernel
theorem dX12_column_181 : decode cX12_column 181 = .ok (.iadd, 1) := by decide +kernel
theorem dX12_column_182 : decode cX12_column 182 = .ok (.bipush 48, 2) := by decide +kernel
theorem dX12_column_184 : decode cX12_column 184 = .ok (.isub, 1) := by decide +kernel
theorem dX12_column_185 : decode cX12_column 185 = .ok (.goto 7, 3) := by decide +kernel
theorem dX12_column_188 : decode cX12_column 188 = .ok (.aload_n 0, 1) := by decide +kernel
theorem dX12_column_189 : decode cX12_column 189 = .ok (.getfield 248, 3) := by decide +kernel
theorem dX12_column_192 : decode cX12_column 192 = .ok (.putfield 248, 3) := by decide +kernel
theorem dX12_column_195 : decode cX12_column 195 = .ok (.aload_n 0, 1) := by decide +kernel
theorem dX12_column_196 : decode cX12_column 196 = .ok (.dup, 1) := by decide +kernel
theorem dX12_column_197 : decode cX12_column 197 = .ok (.getfield 100, 3) := by decide +kernel
theorem dX12_column_200 : decode cX12_column 200 = .ok (.iconst 1, 1) := by decide +kernel
theorem dX12_column_201 : decode cX12_column 201 = .ok (.iadd, 1) := by decide +kernel
theorem dX12_column_202 : decode cX12_column 202 = .ok (.putfield 100, 3) := by decide +kernel
theorem dX12_column_205 : decode cX12_column 205 = .ok (.iinc 4 1, 3) := by decide +kernel
theorem dX12_column_208 : decode cX12_column 208 = .ok (.goto (-193), 3) := by decide +kernel
theorem dX12_column_211 : decode cX12_column 211 = .ok (.aload_n 0, 1) := by decide +kernel
theorem dX12_column_212 : decode cX12_column 212 = .ok (.aload_n 0, 1) := by decide +kernel
theorem dX12_column_213 : decode cX12_column 213 = .ok (.getfield 251, 3) := by decide +kernel
theorem dX12_column_216 : decode cX12_column 216 = .ok (.ifCond .eq 11, 3) := by decide +kernel
theorem dX12_column_219 : decode cX12_column 219 = .ok (.aload_n 0, 1) := by decide +kernel
theorem dX12_column_220 : decode cX12_column 220 = .ok (.getfield 248, 3) := by decide +kernel
theorem dX12_column_223 : decode cX12_column 223 = .ok (.ineg, 1) := by decide +kernel
theorem dX12_column_224 : decode cX12_column 224 = .ok (.goto 7, 3) := by decide +kernel
theorem dX12_column_227 : decode cX12_column 227 = .ok (.aload_n 0, 1) := by decide +kernel
theorem dX12_column_228 : decode cX12_column 228 = .ok (.getfield 248, 3) := by decide +kernel
theorem dX12_column_231 : decode cX12_column 231 = .ok (.putfield 248, 3) := by decide +kernel
theorem dX12_column_234 : decode cX12_column 234 = .ok (.iconst 1, 1) := by decide +kernel
theorem dX12_column_235 : decode cX12_column 235 = .ok (.ireturn, 1) := by decide +kernel
theorem dX12_index_0 : decode cX12_index 0 = .ok (.aload_n 0, 1) := by decide +kernel
theorem dX12_index_1 : decode cX12_index 1 = .ok (.iconst 4, 1) := by decide +kernel
theorem dX12_index_2 : decode cX12_index 2 = .ok (.iconst 1, 1) := by decide +kernel
theorem dX12_index_3 : decode cX12_index 3 = .ok (.invokevirtual 258, 3) := by decide +kernel
theorem dX12_index_6 : decode cX12_index 6 = .ok (.ifCond .ne 5, 3) := by decide +kernel
theorem dX12_index_9 : decode cX12_index 9 = .ok (.iconst 0, 1) := by decide +kernel
theorem dX12_index_10 : decode cX12_index 10 = .ok (.ireturn, 1) := by decide +kernel
theorem dX12_index_11 : decode cX12_index 11 = .ok (.aload_n 0, 1) := by decide +kernel
theorem dX12_index_12 : decode cX12_index 12 = .ok (.getfield 248, 3) := by decide +kernel
theorem dX12_index_15 : decode cX12_index 15 = .ok (.bipush (-127), 2) := by decide +kernel
theorem dX12_index_17 : decode cX12_index 17 = .ok (.bipush 127, 2) := by decide +kernel
theorem dX12_index_19 : decode cX12_index 19 = .ok (.invokestatic 96, 3) := by decide +kernel
theorem dX12_index_22 : decode cX12_index 22 = .ok (.ifCond .ne 15, 3) := by decide +kernel
theorem dX12_index_25 : decode cX12_index 25 = .ok (.aload_n 0, 1) := by decide +kernel
theorem dX12_index_26 : decode cX12_index 26 = .ok (.dup, 1) := by decide +kernel
theorem dX12_index_27 : decode cX12_index 27 = .ok (.getfield 100, 3) := by decide +kernel
theorem dX12_index_30 : decode cX12_index 30 = .ok (.iconst 1, 1) := by decide +kernel
theorem dX12_index_31 : decode cX12_index 31 = .ok (.isub, 1) := by decide +kernel
theorem dX12_index_32 : decode cX12_index 32 = .ok (.putfield 100, 3) := by decide +kernel
theorem dX12_index_35 : decode cX12_index 35 = .ok (.iconst 0, 1) := by decide +kernel
theorem dX12_index_36 : decode cX12_index 36 = .ok (.ireturn, 1) := by decide +kernel
theorem dX12_index_37 : decode cX12_index 37 = .ok (.iconst 1, 1) := by decide +kernel
theorem dX12_index_38 : decode cX12_index 38 = .ok (.ireturn, 1) := by decide +kernel
theorem dX12_hundredths_0 : decode cX12_hundredths 0 = .ok (.aload_n 0, 1) := by decide +kernel
theorem dX12_hundredths_1 : decode cX12_hundredths 1 = .ok (.iconst 5, 1) := by decide +kernel
theorem dX12_hundredths_2 : decode cX12_hundredths 2 = .ok (.iload_n 1, 1) := by decide +kernel
theorem dX12_hundredths_3 : decode cX12_hundredths 3 = .ok (.invokevirtual 258, 3) := by decide +kernel
theorem dX12_hundredths_6 : decode cX12_hundredths 6 = .ok (.ifCond .ne 5, 3) := by decide +kernel
theorem dX12_hundredths_9 : decode cX12_hundredths 9 = .ok (.iconst 0, 1) := by decide +kernel
theorem dX12_hundredths_10 : decode cX12_hundredths 10 = .ok (.ireturn, 1) := by decide +kernel
theorem dX12_hundredths_11 : decode cX12_hundredths 11 = .ok (.aload_n 0, 1) := by decide +kernel
theorem dX12_hundredths_12 : decode cX12_hundredths 12 = .ok (.getfield 248, 3) := by decide +kernel
theorem dX12_hundredths_15 : decode cX12_hundredths 15 = .ok (.ifCond .ge 11, 3) := by decide +kernel
theorem dX12_hundredths_18 : decode cX12_hundredths 18 = .ok (.aload_n 0, 1) := by decide +kernel
theorem dX12_hundredths_19 : decode cX12_hundredths 19 = .ok (.getfield 248, 3) := by decide +kernel
theorem dX12_hundredths_22 : decode cX12_hundredths 22 = .ok (.ineg, 1) := by decide +kernel
theorem dX12_hundredths_23 : decode cX12_hundredths 23 = .ok (.goto 7, 3) := by decide +kernel
theorem dX12_hundredths_26 : decode cX12_hundredths 26 = .ok (.aload_n 0, 1) := by decide +kernel
theorem dX12_hundredths_27 : decode cX12_hundredths 27 = .ok (.getfield 248, 3) := by decide +kernel
theorem dX12_hundredths_30 : decode cX12_hundredths 30 = .ok (.istore_n 2, 1) := by decide +kernel
theorem dX12_hundredths_31 : decode cX12_hundredths 31 = .ok (.aload_n 0, 1) := by decide +kernel
theorem dX12_hundredths_32 : decode cX12_hundredths 32 = .ok (.invokevirtual 110, 3) := by decide +kernel
theorem dX12_hundredths_35 : decode cX12_hundredths 35 = .ok (.bipush 46, 2) := by decide +kernel
theorem dX12_hundredths_37 : decode cX12_hundredths 37 = .ok (.if_icmp .eq 5, 3) := by decide +kernel
theorem dX12_hundredths_40 : decode cX12_hundredths 40 = .ok (.iconst 0, 1) := by decide +kernel
theorem dX12_hundredths_41 : decode cX12_hundredths 41 = .ok (.ireturn, 1) := by decide +kernel
theorem dX12_hundredths_42 : decode cX12_hundredths 42 = .ok (.aload_n 0, 1) := by decide +kernel
theorem dX12_hundredths_43 : decode cX12_hundredths 43 = .ok (.dup, 1) := by decide +kernel
theorem dX12_hundredths_44 : decode cX12_hundredths 44 = .ok (.getfield 100, 3) := by decide +kernel
theorem dX12_hundredths_47 : decode cX12_hundredths 47 = .ok (.iconst 1, 1) := by decide +kernel
theorem dX12_hundredths_48 : decode cX12_hundredths 48 = .ok (.iadd, 1) := by decide +kernel
theorem dX12_hundredths_49 : decode cX12_hundredths 49 = .ok (.putfield 100, 3) := by decide +kernel
theorem dX12_hundredths_52 : decode cX12_hundredths 52 = .ok (.iconst 0, 1) := by decide +kernel
theorem dX12_hundredths_53 : decode cX12_hundredths 53 = .ok (.istore_n 3, 1) := by decide +kernel
theorem dX12_hundredths_54 : decode cX12_hundredths 54 = .ok (.iload_n 3, 1) := by decide +kernel
theorem dX12_hundredths_55 : decode cX12_hundredths 55 = .ok (.iconst 2, 1) := by decide +kernel
theorem dX12_hundredths_56 : decode cX12_hundredths 56 = .ok (.if_icmp .ge 44, 3) := by decide +kernel
theorem dX12_hundredths_59 : decode cX12_hundredths 59 = .ok (.aload_n 0, 1) := by decide +kernel
theorem dX12_hundredths_60 : decode cX12_hundredths 60 = .ok (.invokevirtual 110, 3) := by decide +kernel
theorem dX12_hundredths_63 : decode cX12_hundredths 63 = .ok (.invokestatic 255, 3) := by decide +kernel
theorem dX12_hundredths_66 : decode cX12_hundredths 66 = .ok (.ifCond .ne 5, 3) := by decide +kernel
theorem dX12_hundredths_69 : decode cX12_hundredths 69 = .ok (.iconst 0, 1) := by decide +kernel
theorem dX12_hundredths_70 : decode cX12_hundredths 70 = .ok (.ireturn, 1) := by decide +kernel
theorem dX12_hundredths_71 : decode cX12_hundredths 71 = .ok (.bipush 10, 2) := by decide +kernel
theorem dX12_hundredths_73 : decode cX12_hundredths 73 = .ok (.iload_n 2, 1) := by decide +kernel
theorem dX12_hundredths_74 : decode cX12_hundredths 74 = .ok (.imul, 1) := by decide +kernel
theorem dX12_hundredths_75 : decode cX12_hundredths 75 = .ok (.aload_n 0, 1) := by decide +kernel
theorem dX12_hundredths_76 : decode cX12_hundredths 76 = .ok (.invokevirtual 110, 3) := by decide +kernel
theorem dX12_hundredths_79 : decode cX12_hundredths 79 = .ok (.iadd, 1) := by decide +kernel
theorem dX12_hundredths_80 : decode cX12_hundredths 80 = .ok (.bipush 48, 2) := by decide +kernel
theorem dX12_hundredths_82 : decode cX12_hundredths 82 = .ok (.isub, 1) := by decide +kernel
theorem dX12_hundredths_83 : decode cX12_hundredths 83 = .ok (.istore_n 2, 1) := by decide +kernel
theorem dX12_hundredths_84 : decode cX12_hundredths 84 = .ok (.aload_n 0, 1) := by decide +kernel
theorem dX12_hundredths_85 : decode cX12_hundredths 85 = .ok (.dup, 1) := by decide +kernel
theorem dX12_hundredths_86 : decode cX12_hundredths 86 = .ok (.getfield 100, 3) := by decide +kernel
theorem dX12_hundredths_89 : decode cX12_hundredths 89 = .ok (.iconst 1, 1) := by decide +kernel
theorem dX12_hundredths_90 : decode cX12_hundredths 90 = .ok (.iadd, 1) := by decide +kernel
theorem dX12_hundredths_91 : decode cX12_hundredths 91 = .ok (.putfield 100, 3) := by decide +kernel
theorem dX12_hundredths_94 : decode cX12_hundredths 94 = .ok (.iinc 3 1, 3) := by decide +kernel
theorem dX12_hundredths_97 : decode cX12_hundredths 97 = .ok (.goto (-43), 3) := by decide +kernel
theorem dX12_hundredths_100 : decode cX12_hundredths 100 = .ok (.aload_n 0, 1) := by decide +kernel
theorem dX12_hundredths_101 : decode cX12_hundredths 101 = .ok (.aload_n 0, 1) := by decide +kernel
theorem dX12_hundredths_102 : decode cX12_hundredths 102 = .ok (.getfield 251, 3) := by decide +kernel
theorem dX12_hundredths_105 : decode cX12_hundredths 105 = .ok (.ifCond .eq 8, 3) := by decide +kernel
theorem dX12_hundredths_108 : decode cX12_hundredths 108 = .ok (.iload_n 2, 1) := by decide +kernel
theorem dX12_hundredths_109 : decode cX12_hundredths 109 = .ok (.ineg, 1) := by decide +kernel
theorem dX12_hundredths_110 : decode cX12_hundredths 110 = .ok (.goto 4, 3) := by decide +kernel
theorem dX12_hundredths_113 : decode cX12_hundredths 113 = .ok (.iload_n 2, 1) := by decide +kernel
theorem dX12_hundredths_114 : decode cX12_hundredths 114 = .ok (.putfield 248, 3) := by decide +kernel
theorem dX12_hundredths_117 : decode cX12_hundredths 117 = .ok (.iconst 1, 1) := by decide +kernel
theorem dX12_hundredths_118 : decode cX12_hundredths 118 = .ok (.ireturn, 1) := by decide +kernel
theorem dX12_readsRow_0 : decode cX12_readsRow 0 = .ok (.iconst 0, 1) := by decide +kernel
theorem dX12_readsRow_1 : decode cX12_readsRow 1 = .ok (.istore_n 2, 1) := by decide +kernel
theorem dX12_readsRow_2 : decode cX12_readsRow 2 = .ok (.iconst 0, 1) := by decide +kernel
theorem dX12_readsRow_3 : decode cX12_readsRow 3 = .ok (.istore_n 3, 1) := by decide +kernel
theorem dX12_readsRow_4 : decode cX12_readsRow 4 = .ok (.iconst 0, 1) := by decide +kernel
theorem dX12_readsRow_5 : decode cX12_readsRow 5 = .ok (.istore 4, 2) := by decide +kernel
theorem dX12_readsRow_7 : decode cX12_readsRow 7 = .ok (.iconst 0, 1) := by decide +kernel
theorem dX12_readsRow_8 : decode cX12_readsRow 8 = .ok (.istore 5, 2) := by decide +kernel
theorem dX12_readsRow_10 : decode cX12_readsRow 10 = .ok (.iload 5, 2) := by decide +kernel
theorem dX12_readsRow_12 : decode cX12_readsRow 12 = .ok (.iconst 3, 1) := by decide +kernel
theorem dX12_readsRow_13 : decode cX12_readsRow 13 = .ok (.if_icmp .ge 64, 3) := by decide +kernel
theorem dX12_readsRow_16 : decode cX12_readsRow 16 = .ok (.aload_n 0, 1) := by decide +kernel
theorem dX12_readsRow_17 : decode cX12_readsRow 17 = .ok (.invokevirtual 262, 3) := by decide +kernel
theorem dX12_readsRow_20 : decode cX12_readsRow 20 = .ok (.ifCond .ne 5, 3) := by decide +kernel
theorem dX12_readsRow_23 : decode cX12_readsRow 23 = .ok (.iconst 0, 1) := by decide +kernel
theorem dX12_readsRow_24 : decode cX12_readsRow 24 = .ok (.ireturn, 1) := by decide +kernel
theorem dX12_readsRow_25 : decode cX12_readsRow 25 = .ok (.iload 5, 2) := by decide +kernel
theorem dX12_readsRow_27 : decode cX12_readsRow 27 = .ok (.ifCond .ne 10, 3) := by decide +kernel
theorem dX12_readsRow_30 : decode cX12_readsRow 30 = .ok (.aload_n 0, 1) := by decide +kernel
theorem dX12_readsRow_31 : decode cX12_readsRow 31 = .ok (.getfield 248, 3) := by decide +kernel
theorem dX12_readsRow_34 : decode cX12_readsRow 34 = .ok (.goto 4, 3) := by decide +kernel
theorem dX12_readsRow_37 : decode cX12_readsRow 37 = .ok (.iload_n 2, 1) := by decide +kernel
theorem dX12_readsRow_38 : decode cX12_readsRow 38 = .ok (.istore_n 2, 1) := by decide +kernel
theorem dX12_readsRow_39 : decode cX12_readsRow 39 = .ok (.iload 5, 2) := by decide +kernel
theorem dX12_readsRow_41 : decode cX12_readsRow 41 = .ok (.iconst 1, 1) := by decide +kernel
theorem dX12_readsRow_42 : decode cX12_readsRow 42 = .ok (.if_icmp .ne 10, 3) := by decide +kernel
theorem dX12_readsRow_45 : decode cX12_readsRow 45 = .ok (.aload_n 0, 1) := by decide +kernel
theorem dX12_readsRow_46 : decode cX12_readsRow 46 = .ok (.getfield 248, 3) := by decide +kernel
theorem dX12_readsRow_49 : decode cX12_readsRow 49 = .ok (.goto 4, 3) := by decide +kernel
theorem dX12_readsRow_52 : decode cX12_readsRow 52 = .ok (.iload_n 3, 1) := by decide +kernel
theorem dX12_readsRow_53 : decode cX12_readsRow 53 = .ok (.istore_n 3, 1) := by decide +kernel
theorem dX12_readsRow_54 : decode cX12_readsRow 54 = .ok (.iload 5, 2) := by decide +kernel
theorem dX12_readsRow_56 : decode cX12_readsRow 56 = .ok (.iconst 2, 1) := by decide +kernel
theorem dX12_readsRow_57 : decode cX12_readsRow 57 = .ok (.if_icmp .ne 10, 3) := by decide +kernel
theorem dX12_readsRow_60 : decode cX12_readsRow 60 = .ok (.aload_n 0, 1) := by decide +kernel
theorem dX12_readsRow_61 : decode cX12_readsRow 61 = .ok (.getfield 248, 3) := by decide +kernel
theorem dX12_readsRow_64 : decode cX12_readsRow 64 = .ok (.goto 5, 3) := by decide +kernel
theorem dX12_readsRow_67 : decode cX12_readsRow 67 = .ok (.iload 4, 2) := by decide +kernel
theorem dX12_readsRow_69 : decode cX12_readsRow 69 = .ok (.istore 4, 2) := by decide +kernel
theorem dX12_readsRow_71 : decode cX12_readsRow 71 = .ok (.iinc 5 1, 3) := by decide +kernel
theorem dX12_readsRow_74 : decode cX12_readsRow 74 = .ok (.goto (-64), 3) := by decide +kernel
theorem dX12_readsRow_77 : decode cX12_readsRow 77 = .ok (.aload_n 0, 1) := by decide +kernel
theorem dX12_readsRow_78 : decode cX12_readsRow 78 = .ok (.iconst 1, 1) := by decide +kernel
theorem dX12_readsRow_79 : decode cX12_readsRow 79 = .ok (.invokevirtual 265, 3) := by decide +kernel
theorem dX12_readsRow_82 : decode cX12_readsRow 82 = .ok (.ifCond .ne 5, 3) := by decide +kernel
theorem dX12_readsRow_85 : decode cX12_readsRow 85 = .ok (.iconst 0, 1) := by decide +kernel
theorem dX12_readsRow_86 : decode cX12_readsRow 86 = .ok (.ireturn, 1) := by decide +kernel
theorem dX12_readsRow_87 : decode cX12_readsRow 87 = .ok (.aload_n 0, 1) := by decide +kernel
theorem dX12_readsRow_88 : decode cX12_readsRow 88 = .ok (.getfield 248, 3) := by decide +kernel
theorem dX12_readsRow_91 : decode cX12_readsRow 91 = .ok (.istore 5, 2) := by decide +kernel
theorem dX12_readsRow_93 : decode cX12_readsRow 93 = .ok (.aload_n 0, 1) := by decide +kernel
theorem dX12_readsRow_94 : decode cX12_readsRow 94 = .ok (.iconst 0, 1) := by decide +kernel
theorem dX12_readsRow_95 : decode cX12_readsRow 95 = .ok (.invokevirtual 265, 3) := by decide +kernel
theorem dX12_readsRow_98 : decode cX12_readsRow 98 = .ok (.ifCond .ne 5, 3) := by decide +kernel
theorem dX12_readsRow_101 : decode cX12_readsRow 101 = .ok (.iconst 0, 1) := by decide +kernel
theorem dX12_readsRow_102 : decode cX12_readsRow 102 = .ok (.ireturn, 1) := by decide +kernel
theorem dX12_readsRow_103 : decode cX12_readsRow 103 = .ok (.aload_n 0, 1) := by decide +kernel
theorem dX12_readsRow_104 : decode cX12_readsRow 104 = .ok (.iload_n 2, 1) := by decide +kernel
theorem dX12_readsRow_105 : decode cX12_readsRow 105 = .ok (.ifCond .ne 16, 3) := by decide +kernel
theorem dX12_readsRow_108 : decode cX12_readsRow 108 = .ok (.iload_n 3, 1) := by decide +kernel
theorem dX12_readsRow_109 : decode cX12_readsRow 109 = .ok (.ifCond .ne 12, 3) := by decide +kernel
theorem dX12_readsRow_112 : decode cX12_readsRow 112 = .ok (.iload 4, 2) := by decide +kernel
theorem dX12_readsRow_114 : decode cX12_readsRow 114 = .ok (.ifCond .ne 7, 3) := by decide +kernel
theorem dX12_readsRow_117 : decode cX12_readsRow 117 = .ok (.iconst 1, 1) := by decide +kernel
theorem dX12_readsRow_118 : decode cX12_readsRow 118 = .ok (.goto 4, 3) := by decide +kernel
theorem dX12_readsRow_121 : decode cX12_readsRow 121 = .ok (.iconst 0, 1) := by decide +kernel
theorem dX12_readsRow_122 : decode cX12_readsRow 122 = .ok (.putfield 268, 3) := by decide +kernel
theorem dX12_readsRow_125 : decode cX12_readsRow 125 = .ok (.aload_n 0, 1) := by decide +kernel
theorem dX12_readsRow_126 : decode cX12_readsRow 126 = .ok (.getfield 268, 3) := by decide +kernel
theorem dX12_readsRow_129 : decode cX12_readsRow 129 = .ok (.ifCond .ne 50, 3) := by decide +kernel
theorem dX12_readsRow_132 : decode cX12_readsRow 132 = .ok (.iload_n 1, 1) := by decide +kernel
theorem dX12_readsRow_133 : decode cX12_readsRow 133 = .ok (.sipush 3000, 3) := by decide +kernel
theorem dX12_readsRow_136 : decode cX12_readsRow 136 = .ok (.if_icmp .ge 43, 3) := by decide +kernel
theorem dX12_readsRow_139 : decode cX12_readsRow 139 = .ok (.aload_n 0, 1) := by decide +kernel
theorem dX12_readsRow_140 : decode cX12_readsRow 140 = .ok (.getfield 42, 3) := by decide +kernel
theorem dX12_readsRow_143 : decode cX12_readsRow 143 = .ok (.iload_n 1, 1) := by decide +kernel
theorem dX12_readsRow_144 : decode cX12_readsRow 144 = .ok (.iload_n 2, 1) := by decide +kernel
theorem dX12_readsRow_145 : decode cX12_readsRow 145 = .ok (.iastore, 1) := by decide +kernel
theorem dX12_readsRow_146 : decode cX12_readsRow 146 = .ok (.aload_n 0, 1) := by decide +kernel
theorem dX12_readsRow_147 : decode cX12_readsRow 147 = .ok (.getfield 45, 3) := by decide +kernel
theorem dX12_readsRow_150 : decode cX12_readsRow 150 = .ok (.iload_n 1, 1) := by decide +kernel
theorem dX12_readsRow_151 : decode cX12_readsRow 151 = .ok (.iload_n 3, 1) := by decide +kernel
theorem dX12_readsRow_152 : decode cX12_readsRow 152 = .ok (.iastore, 1) := by decide +kernel
theorem dX12_readsRow_153 : decode cX12_readsRow 153 = .ok (.aload_n 0, 1) := by decide +kernel
theorem dX12_readsRow_154 : decode cX12_readsRow 154 = .ok (.getfield 48, 3) := by decide +kernel
theorem dX12_readsRow_157 : decode cX12_readsRow 157 = .ok (.iload_n 1, 1) := by decide +kernel
theorem dX12_readsRow_158 : decode cX12_readsRow 158 = .ok (.iload 4, 2) := by decide +kernel
theorem dX12_readsRow_160 : decode cX12_readsRow 160 = .ok (.iastore, 1) := by decide +kernel
theorem dX12_readsRow_161 : decode cX12_readsRow 161 = .ok (.aload_n 0, 1) := by decide +kernel
theorem dX12_readsRow_162 : decode cX12_readsRow 162 = .ok (.getfield 51, 3) := by decide +kernel
theorem dX12_readsRow_165 : decode cX12_readsRow 165 = .ok (.iload_n 1, 1) := by decide +kernel
theorem dX12_readsRow_166 : decode cX12_readsRow 166 = .ok (.iload 5, 2) := by decide +kernel
theorem dX12_readsRow_168 : decode cX12_readsRow 168 = .ok (.iastore, 1) := by decide +kernel
theorem dX12_readsRow_169 : decode cX12_readsRow 169 = .ok (.aload_n 0, 1) := by decide +kernel
theorem dX12_readsRow_170 : decode cX12_readsRow 170 = .ok (.getfield 54, 3) := by decide +kernel
theorem dX12_readsRow_173 : decode cX12_readsRow 173 = .ok (.iload_n 1, 1) := by decide +kernel
theorem dX12_readsRow_174 : decode cX12_readsRow 174 = .ok (.aload_n 0, 1) := by decide +kernel
theorem dX12_readsRow_175 : decode cX12_readsRow 175 = .ok (.getfield 248, 3) := by decide +kernel
theorem dX12_readsRow_178 : decode cX12_readsRow 178 = .ok (.iastore, 1) := by decide +kernel
theorem dX12_readsRow_179 : decode cX12_readsRow 179 = .ok (.iconst 1, 1) := by decide +kernel
theorem dX12_readsRow_180 : decode cX12_readsRow 180 = .ok (.ireturn, 1) := by decide +kernel
theorem dX12_file_0 : decode cX12_file 0 = .ok (.aload_n 0, 1) := by decide +kernel
theorem dX12_file_1 : decode cX12_file 1 = .ok (.iconst 0, 1) := by decide +kernel
theorem dX12_file_2 : decode cX12_file 2 = .ok (.putfield 85, 3) := by decide +kernel
theorem dX12_file_5 : decode cX12_file 5 = .ok (.aload_n 0, 1) := by decide +kernel
theorem dX12_file_6 : decode cX12_file 6 = .ok (.iconst 0, 1) := by decide +kernel
theorem dX12_file_7 : decode cX12_file 7 = .ok (.putfield 100, 3) := by decide +kernel
theorem dX12_file_10 : decode cX12_file 10 = .ok (.aload_n 0, 1) := by decide +kernel
theorem dX12_file_11 : decode cX12_file 11 = .ok (.iconst 0, 1) := by decide +kernel
theorem dX12_file_12 : decode cX12_file 12 = .ok (.putfield 268, 3) := by decide +kernel
theorem dX12_file_15 : decode cX12_file 15 = .ok (.aload_n 0, 1) := by decide +kernel
theorem dX12_file_16 : decode cX12_file 16 = .ok (.getfield 271, 3) := by decide +kernel
theorem dX12_file_19 : decode cX12_file 19 = .ok (.istore_n 1, 1) := by decide +kernel
theorem dX12_file_20 : decode cX12_file 20 = .ok (.aload_n 0, 1) := by decide +kernel
theorem dX12_file_21 : decode cX12_file 21 = .ok (.getfield 89, 3) := by decide +kernel
theorem dX12_file_24 : decode cX12_file 24 = .ok (.ifCond .le 7, 3) := by decide +kernel
theorem dX12_file_27 : decode cX12_file 27 = .ok (.iconst 1, 1) := by decide +kernel
theorem dX12_file_28 : decode cX12_file 28 = .ok (.goto 4, 3) := by decide +kernel
theorem dX12_file_31 : decode cX12_file 31 = .ok (.iconst 0, 1) := by decide +kernel
theorem dX12_file_32 : decode cX12_file 32 = .ok (.istore_n 2, 1) := by decide +kernel
theorem dX12_file_33 : decode cX12_file 33 = .ok (.iload_n 2, 1) := by decide +kernel
theorem dX12_file_34 : decode cX12_file 34 = .ok (.ifCond .eq 138, 3) := by decide +kernel
theorem dX12_file_37 : decode cX12_file 37 = .ok (.aload_n 0, 1) := by decide +kernel
theorem dX12_file_38 : decode cX12_file 38 = .ok (.getfield 100, 3) := by decide +kernel
theorem dX12_file_41 : decode cX12_file 41 = .ok (.aload_n 0, 1) := by decide +kernel
theorem dX12_file_42 : decode cX12_file 42 = .ok (.getfield 89, 3) := by decide +kernel
theorem dX12_file_45 : decode cX12_file 45 = .ok (.if_icmp .ge 127, 3) := by decide +kernel
theorem dX12_file_48 : decode cX12_file 48 = .ok (.aload_n 0, 1) := by decide +kernel
theorem dX12_file_49 : decode cX12_file 49 = .ok (.getfield 100, 3) := by decide +kernel
theorem dX12_file_52 : decode cX12_file 52 = .ok (.istore_n 3, 1) := by decide +kernel
theorem dX12_file_53 : decode cX12_file 53 = .ok (.aload_n 0, 1) := by decide +kernel
theorem dX12_file_54 : decode cX12_file 54 = .ok (.getfield 268, 3) := by decide +kernel
theorem dX12_file_57 : decode cX12_file 57 = .ok (.ifCond .ne 15, 3) := by decide +kernel
theorem dX12_file_60 : decode cX12_file 60 = .ok (.aload_n 0, 1) := by decide +kernel
theorem dX12_file_61 : decode cX12_file 61 = .ok (.iload_n 1, 1) := by decide +kernel
theorem dX12_file_62 : decode cX12_file 62 = .ok (.invokevirtual 274, 3) := by decide +kernel
theorem dX12_file_65 : decode cX12_file 65 = .ok (.ifCond .eq 7, 3) := by decide +kernel
theorem dX12_file_68 : decode cX12_file 68 = .ok (.iconst 1, 1) := by decide +kernel
theorem dX12_file_69 : decode cX12_file 69 = .ok (.goto 4, 3) := by decide +kernel
theorem dX12_file_72 : decode cX12_file 72 = .ok (.iconst 0, 1) := by decide +kernel
theorem dX12_file_73 : decode cX12_file 73 = .ok (.istore_n 2, 1) := by decide +kernel
theorem dX12_file_74 : decode cX12_file 74 = .ok (.iload_n 2, 1) := by decide +kernel
theorem dX12_file_75 : decode cX12_file 75 = .ok (.ifCond .eq 24, 3) := by decide +kernel
theorem dX12_file_78 : decode cX12_file 78 = .ok (.aload_n 0, 1) := by decide +kernel
theorem dX12_file_79 : decode cX12_file 79 = .ok (.getfield 268, 3) := by decide +kernel
theorem dX12_file_82 : decode cX12_file 82 = .ok (.ifCond .ne 17, 3) := by decide +kernel
theorem dX12_file_85 : decode cX12_file 85 = .ok (.iload_n 1, 1) := by decide +kernel
theorem dX12_file_86 : decode cX12_file 86 = .ok (.sipush 3000, 3) := by decide +kernel
theorem dX12_file_89 : decode cX12_file 89 = .ok (.if_icmp .ne 10, 3) := by decide +kernel
theorem dX12_file_92 : decode cX12_file 92 = .ok (.iconst 0, 1) := by decide +kernel
theorem dX12_file_93 : decode cX12_file 93 = .ok (.istore_n 2, 1) := by decide +kernel
theorem dX12_file_94 : decode cX12_file 94 = .ok (.aload_n 0, 1) := by decide +kernel
theorem dX12_file_95 : decode cX12_file 95 = .ok (.iload_n 3, 1) := by decide +kernel
theorem dX12_file_96 : decode cX12_file 96 = .ok (.putfield 100, 3) := by decide +kernel
theorem dX12_file_99 : decode cX12_file 99 = .ok (.iload_n 2, 1) := by decide +kernel
theorem dX12_file_100 : decode cX12_file 100 = .ok (.ifCond .eq 16, 3) := by decide +kernel
theorem dX12_file_103 : decode cX12_file 103 = .ok (.aload_n 0, 1) := by decide +kernel
theorem dX12_file_104 : decode cX12_file 104 = .ok (.getfield 268, 3) := by decide +kernel
theorem dX12_file_107 : decode cX12_file 107 = .ok (.ifCond .ne 9, 3) := by decide +kernel
theorem dX12_file_110 : decode cX12_file 110 = .ok (.iload_n 1, 1) := by decide +kernel
theorem dX12_file_111 : decode cX12_file 111 = .ok (.iconst 1, 1) := by decide +kernel
theorem dX12_file_112 : decode cX12_file 112 = .ok (.iadd, 1) := by decide +kernel
theorem dX12_file_113 : decode cX12_file 113 = .ok (.goto 4, 3) := by decide +kernel
theorem dX12_file_116 : decode cX12_file 116 = .ok (.iload_n 1, 1) := by decide +kernel
theorem dX12_file_117 : decode cX12_file 117 = .ok (.istore_n 1, 1) := by decide +kernel
theorem dX12_file_118 : decode cX12_file 118 = .ok (.iload_n 2, 1) := by decide +kernel
theorem dX12_file_119 : decode cX12_file 119 = .ok (.ifCond .eq 50, 3) := by decide +kernel
theorem dX12_file_122 : decode cX12_file 122 = .ok (.aload_n 0, 1) := by decide +kernel
theorem dX12_file_123 : decode cX12_file 123 = .ok (.getfield 100, 3) := by decide +kernel
theorem dX12_file_126 : decode cX12_file 126 = .ok (.aload_n 0, 1) := by decide +kernel
theorem dX12_file_127 : decode cX12_file 127 = .ok (.getfield 89, 3) := by decide +kernel
theorem dX12_file_130 : decode cX12_file 130 = .ok (.if_icmp .ge 39, 3) := by decide +kernel
theorem dX12_file_133 : decode cX12_file 133 = .ok (.aload_n 0, 1) := by decide +kernel
theorem dX12_file_134 : decode cX12_file 134 = .ok (.invokevirtual 110, 3) := by decide +kernel
theorem dX12_file_137 : decode cX12_file 137 = .ok (.bipush 10, 2) := by decide +kernel
theorem dX12_file_139 : decode cX12_file 139 = .ok (.if_icmp .ne 7, 3) := by decide +kernel
theorem dX12_file_142 : decode cX12_file 142 = .ok (.iconst 1, 1) := by decide +kernel
theorem dX12_file_143 : decode cX12_file 143 = .ok (.goto 4, 3) := by decide +kernel
theorem dX12_file_146 : decode cX12_file 146 = .ok (.iconst 0, 1) := by decide +kernel
theorem dX12_file_147 : decode cX12_file 147 = .ok (.istore_n 2, 1) := by decide +kernel
theorem dX12_file_148 : decode cX12_file 148 = .ok (.aload_n 0, 1) := by decide +kernel
theorem dX12_file_149 : decode cX12_file 149 = .ok (.iload_n 2, 1) := by decide +kernel
theorem dX12_file_150 : decode cX12_file 150 = .ok (.ifCond .eq 12, 3) := by decide +kernel
theorem dX12_file_153 : decode cX12_file 153 = .ok (.aload_n 0, 1) := by decide +kernel
theorem dX12_file_154 : decode cX12_file 154 = .ok (.getfield 100, 3) := by decide +kernel
theorem dX12_file_157 : decode cX12_file 157 = .ok (.iconst 1, 1) := by decide +kernel
theorem dX12_file_158 : decode cX12_file 158 = .ok (.iadd, 1) := by decide +kernel
theorem dX12_file_159 : decode cX12_file 159 = .ok (.goto 7, 3) := by decide +kernel
theorem dX12_file_162 : decode cX12_file 162 = .ok (.aload_n 0, 1) := by decide +kernel
theorem dX12_file_163 : decode cX12_file 163 = .ok (.getfield 100, 3) := by decide +kernel
theorem dX12_file_166 : decode cX12_file 166 = .ok (.putfield 100, 3) := by decide +kernel
theorem dX12_file_169 : decode cX12_file 169 = .ok (.goto (-136), 3) := by decide +kernel
theorem dX12_file_172 : decode cX12_file 172 = .ok (.aload_n 0, 1) := by decide +kernel
theorem dX12_file_173 : decode cX12_file 173 = .ok (.iconst 0, 1) := by decide +kernel
theorem dX12_file_174 : decode cX12_file 174 = .ok (.putfield 89, 3) := by decide +kernel
theorem dX12_file_177 : decode cX12_file 177 = .ok (.iload_n 2, 1) := by decide +kernel
theorem dX12_file_178 : decode cX12_file 178 = .ok (.ifCond .ne 10, 3) := by decide +kernel
theorem dX12_file_181 : decode cX12_file 181 = .ok (.iconst (-1), 1) := by decide +kernel
theorem dX12_file_182 : decode cX12_file 182 = .ok (.aload_n 0, 1) := by decide +kernel
theorem dX12_file_183 : decode cX12_file 183 = .ok (.getfield 100, 3) := by decide +kernel
theorem dX12_file_186 : decode cX12_file 186 = .ok (.isub, 1) := by decide +kernel
theorem dX12_file_187 : decode cX12_file 187 = .ok (.ireturn, 1) := by decide +kernel
theorem dX12_file_188 : decode cX12_file 188 = .ok (.iload_n 1, 1) := by decide +kernel
theorem dX12_file_189 : decode cX12_file 189 = .ok (.aload_n 0, 1) := by decide +kernel
theorem dX12_file_190 : decode cX12_file 190 = .ok (.getfield 271, 3) := by decide +kernel
theorem dX12_file_193 : decode cX12_file 193 = .ok (.isub, 1) := by decide +kernel
theorem dX12_file_194 : decode cX12_file 194 = .ok (.istore_n 3, 1) := by decide +kernel
theorem dX12_file_195 : decode cX12_file 195 = .ok (.aload_n 0, 1) := by decide +kernel
theorem dX12_file_196 : decode cX12_file 196 = .ok (.iload_n 1, 1) := by decide +kernel
theorem dX12_file_197 : decode cX12_file 197 = .ok (.putfield 271, 3) := by decide +kernel
theorem dX12_file_200 : decode cX12_file 200 = .ok (.iload_n 3, 1) := by decide +kernel
theorem dX12_file_201 : decode cX12_file 201 = .ok (.ireturn, 1) := by decide +kernel
theorem dX12_drop_0 : decode cX12_drop 0 = .ok (.aload_n 0, 1) := by decide +kernel
theorem dX12_drop_1 : decode cX12_drop 1 = .ok (.iconst 0, 1) := by decide +kernel
theorem dX12_drop_2 : decode cX12_drop 2 = .ok (.putfield 85, 3) := by decide +kernel
theorem dX12_drop_5 : decode cX12_drop 5 = .ok (.aload_n 0, 1) := by decide +kernel
theorem dX12_drop_6 : decode cX12_drop 6 = .ok (.getfield 271, 3) := by decide +kernel
theorem dX12_drop_9 : decode cX12_drop 9 = .ok (.istore_n 1, 1) := by decide +kernel
theorem dX12_drop_10 : decode cX12_drop 10 = .ok (.aload_n 0, 1) := by decide +kernel
theorem dX12_drop_11 : decode cX12_drop 11 = .ok (.iconst 0, 1) := by decide +kernel
theorem dX12_drop_12 : decode cX12_drop 12 = .ok (.putfield 271, 3) := by decide +kernel
theorem dX12_drop_15 : decode cX12_drop 15 = .ok (.aload_n 0, 1) := by decide +kernel
theorem dX12_drop_16 : decode cX12_drop 16 = .ok (.iconst 0, 1) := by decide +kernel
theorem dX12_drop_17 : decode cX12_drop 17 = .ok (.putfield 195, 3) := by decide +kernel
theorem dX12_drop_20 : decode cX12_drop 20 = .ok (.iload_n 1, 1) := by decide +kernel
theorem dX12_drop_21 : decode cX12_drop 21 = .ok (.ireturn, 1) := by decide +kernel
theorem dX12_reflections_0 : decode cX12_reflections 0 = .ok (.aload_n 0, 1) := by decide +kernel
theorem dX12_reflections_1 : decode cX12_reflections 1 = .ok (.iconst 0, 1) := by decide +kernel
theorem dX12_reflections_2 : decode cX12_reflections 2 = .ok (.putfield 85, 3) := by decide +kernel
theorem dX12_reflections_5 : decode cX12_reflections 5 = .ok (.aload_n 0, 1) := by decide +kernel
theorem dX12_reflections_6 : decode cX12_reflections 6 = .ok (.getfield 271, 3) := by decide +kernel
theorem dX12_reflections_9 : decode cX12_reflections 9 = .ok (.ireturn, 1) := by decide +kernel
theorem dX12_reflection_0 : decode cX12_reflection 0 = .ok (.aload_n 0, 1) := by decide +kernel
theorem dX12_reflection_1 : decode cX12_reflection 1 = .ok (.iload_n 1, 1) := by decide +kernel
theorem dX12_reflection_2 : decode cX12_reflection 2 = .ok (.iconst 0, 1) := by decide +kernel
theorem dX12_reflection_3 : decode cX12_reflection 3 = .ok (.aload_n 0, 1) := by decide +kernel
theorem dX12_reflection_4 : decode cX12_reflection 4 = .ok (.getfield 271, 3) := by decide +kernel
theorem dX12_reflection_7 : decode cX12_reflection 7 = .ok (.iconst 1, 1) := by decide +kernel
theorem dX12_reflection_8 : decode cX12_reflection 8 = .ok (.isub, 1) := by decide +kernel
theorem dX12_reflection_9 : decode cX12_reflection 9 = .ok (.invokestatic 96, 3) := by decide +kernel
theorem dX12_reflection_12 : decode cX12_reflection 12 = .ok (.ifCond .eq 16, 3) := by decide +kernel
theorem dX12_reflection_15 : decode cX12_reflection 15 = .ok (.iload_n 2, 1) := by decide +kernel
theorem dX12_reflection_16 : decode cX12_reflection 16 = .ok (.iconst 0, 1) := by decide +kernel
theorem dX12_reflection_17 : decode cX12_reflection 17 = .ok (.iconst 4, 1) := by decide +kernel
theorem dX12_reflection_18 : decode cX12_reflection 18 = .ok (.invokestatic 96, 3) := by decide +kernel
theorem dX12_reflection_21 : decode cX12_reflection 21 = .ok (.ifCond .eq 7, 3) := by decide +kernel
theorem dX12_reflection_24 : decode cX12_reflection 24 = .ok (.iconst 1, 1) := by decide +kernel
theorem dX12_reflection_25 : decode cX12_reflection 25 = .ok (.goto 4, 3) := by decide +kernel
theorem dX12_reflection_28 : decode cX12_reflection 28 = .ok (.iconst 0, 1) := by decide +kernel
theorem dX12_reflection_29 : decode cX12_reflection 29 = .ok (.invokevirtual 92, 3) := by decide +kernel
theorem dX12_reflection_32 : decode cX12_reflection 32 = .ok (.ifCond .ne 5, 3) := by decide +kernel
theorem dX12_reflection_35 : decode cX12_reflection 35 = .ok (.iconst 0, 1) := by decide +kernel
theorem dX12_reflection_36 : decode cX12_reflection 36 = .ok (.ireturn, 1) := by decide +kernel
theorem dX12_reflection_37 : decode cX12_reflection 37 = .ok (.iload_n 2, 1) := by decide +kernel
theorem dX12_reflection_38 : decode cX12_reflection 38 = .ok (.ifCond .ne 12, 3) := by decide +kernel
theorem dX12_reflection_41 : decode cX12_reflection 41 = .ok (.aload_n 0, 1) := by decide +kernel
theorem dX12_reflection_42 : decode cX12_reflection 42 = .ok (.getfield 42, 3) := by decide +kernel
theorem dX12_reflection_45 : decode cX12_reflection 45 = .ok (.iload_n 1, 1) := by decide +kernel
theorem dX12_reflection_46 : decode cX12_reflection 46 = .ok (.iaload, 1) := by decide +kernel
theorem dX12_reflection_47 : decode cX12_reflection 47 = .ok (.goto 51, 3) := by decide +kernel
theorem dX12_reflection_50 : decode cX12_reflection 50 = .ok (.iload_n 2, 1) := by decide +kernel
theorem dX12_reflection_51 : decode cX12_reflection 51 = .ok (.iconst 1, 1) := by decide +kernel
theorem dX12_reflection_52 : decode cX12_reflection 52 = .ok (.if_icmp .ne 12, 3) := by decide +kernel
theorem dX12_reflection_55 : decode cX12_reflection 55 = .ok (.aload_n 0, 1) := by decide +kernel
theorem dX12_reflection_56 : decode cX12_reflection 56 = .ok (.getfield 45, 3) := by decide +kernel
theorem dX12_reflection_59 : decode cX12_reflection 59 = .ok (.iload_n 1, 1) := by decide +kernel
theorem dX12_reflection_60 : decode cX12_reflection 60 = .ok (.iaload, 1) := by decide +kernel
theorem dX12_reflection_61 : decode cX12_reflection 61 = .ok (.goto 37, 3) := by decide +kernel
theorem dX12_reflection_64 : decode cX12_reflection 64 = .ok (.iload_n 2, 1) := by decide +kernel
theorem dX12_reflection_65 : decode cX12_reflection 65 = .ok (.iconst 2, 1) := by decide +kernel
theorem dX12_reflection_66 : decode cX12_reflection 66 = .ok (.if_icmp .ne 12, 3) := by decide +kernel
theorem dX12_reflection_69 : decode cX12_reflection 69 = .ok (.aload_n 0, 1) := by decide +kernel
theorem dX12_reflection_70 : decode cX12_reflection 70 = .ok (.getfield 48, 3) := by decide +kernel
theorem dX12_reflection_73 : decode cX12_reflection 73 = .ok (.iload_n 1, 1) := by decide +kernel
theorem dX12_reflection_74 : decode cX12_reflection 74 = .ok (.iaload, 1) := by decide +kernel
theorem dX12_reflection_75 : decode cX12_reflection 75 = .ok (.goto 23, 3) := by decide +kernel
theorem dX12_reflection_78 : decode cX12_reflection 78 = .ok (.iload_n 2, 1) := by decide +kernel
theorem dX12_reflection_79 : decode cX12_reflection 79 = .ok (.iconst 3, 1) := by decide +kernel
theorem dX12_reflection_80 : decode cX12_reflection 80 = .ok (.if_icmp .ne 12, 3) := by decide +kernel
theorem dX12_reflection_83 : decode cX12_reflection 83 = .ok (.aload_n 0, 1) := by decide +kernel
theorem dX12_reflection_84 : decode cX12_reflection 84 = .ok (.getfield 51, 3) := by decide +kernel
theorem dX12_reflection_87 : decode cX12_reflection 87 = .ok (.iload_n 1, 1) := by decide +kernel
theorem dX12_reflection_88 : decode cX12_reflection 88 = .ok (.iaload, 1) := by decide +kernel
theorem dX12_reflection_89 : decode cX12_reflection 89 = .ok (.goto 9, 3) := by decide +kernel
theorem dX12_reflection_92 : decode cX12_reflection 92 = .ok (.aload_n 0, 1) := by decide +kernel
theorem dX12_reflection_93 : decode cX12_reflection 93 = .ok (.getfield 54, 3) := by decide +kernel
theorem dX12_reflection_96 : decode cX12_reflection 96 = .ok (.iload_n 1, 1) := by decide +kernel
theorem dX12_reflection_97 : decode cX12_reflection 97 = .ok (.iaload, 1) := by decide +kernel
theorem dX12_reflection_98 : decode cX12_reflection 98 = .ok (.ireturn, 1) := by decide +kernel
theorem dX12_place_0 : decode cX12_place 0 = .ok (.iconst 0, 1) := by decide +kernel
theorem dX12_place_1 : decode cX12_place 1 = .ok (.istore_n 3, 1) := by decide +kernel
theorem dX12_place_2 : decode cX12_place 2 = .ok (.aload_n 0, 1) := by decide +kernel
theorem dX12_place_3 : decode cX12_place 3 = .ok (.getfield 195, 3) := by decide +kernel
theorem dX12_place_6 : decode cX12_place 6 = .ok (.istore 4, 2) := by decide +kernel
theorem dX12_place_8 : decode cX12_place 8 = .ok (.iload_n 3, 1) := by decide +kernel
theorem dX12_place_9 : decode cX12_place 9 = .ok (.iload 4, 2) := by decide +kernel
theorem dX12_place_11 : decode cX12_place 11 = .ok (.if_icmp .ge 56, 3) := by decide +kernel
theorem dX12_place_14 : decode cX12_place 14 = .ok (.iload_n 3, 1) := by decide +kernel
theorem dX12_place_15 : decode cX12_place 15 = .ok (.iload 4, 2) := by decide +kernel
theorem dX12_place_17 : decode cX12_place 17 = .ok (.iadd, 1) := by decide +kernel
theorem dX12_place_18 : decode cX12_place 18 = .ok (.iconst 2, 1) := by decide +kernel
theorem dX12_place_19 : decode cX12_place 19 = .ok (.idiv, 1) := by decide +kernel
theorem dX12_place_20 : decode cX12_place 20 = .ok (.istore 5, 2) := by decide +kernel
theorem dX12_place_22 : decode cX12_place 22 = .ok (.aload_n 0, 1) := by decide +kernel
theorem dX12_place_23 : decode cX12_place 23 = .ok (.getfield 57, 3) := by decide +kernel
theorem dX12_place_26 : decode cX12_place 26 = .ok (.iload 5, 2) := by decide +kernel
theorem dX12_place_28 : decode cX12_place 28 = .ok (.laload, 1) := by decide +kernel
theorem dX12_place_29 : decode cX12_place 29 = .ok (.lload_n 1, 1) := by decide +kernel
theorem dX12_place_30 : decode cX12_place 30 = .ok (.lcmp, 1) := by decide +kernel
theorem dX12_place_31 : decode cX12_place 31 = .ok (.ifCond .ge 10, 3) := by decide +kernel
theorem dX12_place_34 : decode cX12_place 34 = .ok (.iload 5, 2) := by decide +kernel
theorem dX12_place_36 : decode cX12_place 36 = .ok (.iconst 1, 1) := by decide +kernel
theorem dX12_place_37 : decode cX12_place 37 = .ok (.iadd, 1) := by decide +kernel
theorem dX12_place_38 : decode cX12_place 38 = .ok (.goto 4, 3) := by decide +kernel
theorem dX12_place_41 : decode cX12_place 41 = .ok (.iload_n 3, 1) := by decide +kernel
theorem dX12_place_42 : decode cX12_place 42 = .ok (.istore_n 3, 1) := by decide +kernel
theorem dX12_place_43 : decode cX12_place 43 = .ok (.aload_n 0, 1) := by decide +kernel
theorem dX12_place_44 : decode cX12_place 44 = .ok (.getfield 57, 3) := by decide +kernel
theorem dX12_place_47 : decode cX12_place 47 = .ok (.iload 5, 2) := by decide +kernel
theorem dX12_place_49 : decode cX12_place 49 = .ok (.laload, 1) := by decide +kernel
theorem dX12_place_50 : decode cX12_place 50 = .ok (.lload_n 1, 1) := by decide +kernel
theorem dX12_place_51 : decode cX12_place 51 = .ok (.lcmp, 1) := by decide +kernel
theorem dX12_place_52 : decode cX12_place 52 = .ok (.ifCond .ge 8, 3) := by decide +kernel
theorem dX12_place_55 : decode cX12_place 55 = .ok (.iload 4, 2) := by decide +kernel
theorem dX12_place_57 : decode cX12_place 57 = .ok (.goto 5, 3) := by decide +kernel
theorem dX12_place_60 : decode cX12_place 60 = .ok (.iload 5, 2) := by decide +kernel
theorem dX12_place_62 : decode cX12_place 62 = .ok (.istore 4, 2) := by decide +kernel
theorem dX12_place_64 : decode cX12_place 64 = .ok (.goto (-56), 3) := by decide +kernel
theorem dX12_place_67 : decode cX12_place 67 = .ok (.iload_n 3, 1) := by decide +kernel
theorem dX12_place_68 : decode cX12_place 68 = .ok (.ireturn, 1) := by decide +kernel
theorem dX12_merge_0 : decode cX12_merge 0 = .ok (.aload_n 0, 1) := by decide +kernel
theorem dX12_merge_1 : decode cX12_merge 1 = .ok (.aload_n 0, 1) := by decide +kernel
theorem dX12_merge_2 : decode cX12_merge 2 = .ok (.getfield 183, 3) := by decide +kernel
theorem dX12_merge_5 : decode cX12_merge 5 = .ok (.ifCond .le 7, 3) := by decide +kernel
theorem dX12_merge_8 : decode cX12_merge 8 = .ok (.iconst 1, 1) := by decide +kernel
theorem dX12_merge_9 : decode cX12_merge 9 = .ok (.goto 4, 3) := by decide +kernel
theorem dX12_merge_12 : decode cX12_merge 12 = .ok (.iconst 0, 1) := by decide +kernel
theorem dX12_merge_13 : decode cX12_merge 13 = .ok (.invokevirtual 92, 3) := by decide +kernel
theorem dX12_merge_16 : decode cX12_merge 16 = .ok (.ifCond .ne 5, 3) := by decide +kernel
theorem dX12_merge_19 : decode cX12_merge 19 = .ok (.iconst 0, 1) := by decide +kernel
theorem dX12_merge_20 : decode cX12_merge 20 = .ok (.ireturn, 1) := by decide +kernel
theorem dX12_merge_21 : decode cX12_merge 21 = .ok (.aload_n 0, 1) := by decide +kernel
theorem dX12_merge_22 : decode cX12_merge 22 = .ok (.iconst 0, 1) := by decide +kernel
theorem dX12_merge_23 : decode cX12_merge 23 = .ok (.putfield 195, 3) := by decide +kernel
theorem dX12_merge_26 : decode cX12_merge 26 = .ok (.iconst 0, 1) := by decide +kernel
theorem dX12_merge_27 : decode cX12_merge 27 = .ok (.istore_n 1, 1) := by decide +kernel
theorem dX12_merge_28 : decode cX12_merge 28 = .ok (.iload_n 1, 1) := by decide +kernel
theorem dX12_merge_29 : decode cX12_merge 29 = .ok (.aload_n 0, 1) := by decide +kernel
theorem dX12_merge_30 : decode cX12_merge 30 = .ok (.getfield 271, 3) := by decide +kernel
theorem dX12_merge_33 : decode cX12_merge 33 = .ok (.if_icmp .ge 196, 3) := by decide +kernel
theorem dX12_merge_36 : decode cX12_merge 36 = .ok (.aload_n 0, 1) := by decide +kernel
theorem dX12_merge_37 : decode cX12_merge 37 = .ok (.getfield 76, 3) := by decide +kernel
theorem dX12_merge_40 : decode cX12_merge 40 = .ok (.iload_n 1, 1) := by decide +kernel
theorem dX12_merge_41 : decode cX12_merge 41 = .ok (.aload_n 0, 1) := by decide +kernel
theorem dX12_merge_42 : decode cX12_merge 42 = .ok (.aload_n 0, 1) := by decide +kernel
theorem dX12_merge_43 : decode cX12_merge 43 = .ok (.getfield 42, 3) := by decide +kernel
theorem dX12_merge_46 : decode cX12_merge 46 = .ok (.iload_n 1, 1) := by decide +kernel
theorem dX12_merge_47 : decode cX12_merge 47 = .ok (.iaload, 1) := by decide +kernel
theorem dX12_merge_48 : decode cX12_merge 48 = .ok (.aload_n 0, 1) := by decide +kernel
theorem dX12_merge_49 : decode cX12_merge 49 = .ok (.getfield 45, 3) := by decide +kernel
theorem dX12_merge_52 : decode cX12_merge 52 = .ok (.iload_n 1, 1) := by decide +kernel
theorem dX12_merge_53 : decode cX12_merge 53 = .ok (.iaload, 1) := by decide +kernel
theorem dX12_merge_54 : decode cX12_merge 54 = .ok (.aload_n 0, 1) := by decide +kernel
theorem dX12_merge_55 : decode cX12_merge 55 = .ok (.getfield 48, 3) := by decide +kernel
theorem dX12_merge_58 : decode cX12_merge 58 = .ok (.iload_n 1, 1) := by decide +kernel
theorem dX12_merge_59 : decode cX12_merge 59 = .ok (.iaload, 1) := by decide +kernel
theorem dX12_merge_60 : decode cX12_merge 60 = .ok (.invokevirtual 241, 3) := by decide +kernel
theorem dX12_merge_63 : decode cX12_merge 63 = .ok (.lastore, 1) := by decide +kernel
theorem dX12_merge_64 : decode cX12_merge 64 = .ok (.aload_n 0, 1) := by decide +kernel
theorem dX12_merge_65 : decode cX12_merge 65 = .ok (.aload_n 0, 1) := by decide +kernel
theorem dX12_merge_66 : decode cX12_merge 66 = .ok (.getfield 76, 3) := by decide +kernel
theorem dX12_merge_69 : decode cX12_merge 69 = .ok (.iload_n 1, 1) := by decide +kernel
theorem dX12_merge_70 : decode cX12_merge 70 = .ok (.laload, 1) := by decide +kernel
theorem dX12_merge_71 : decode cX12_merge 71 = .ok (.invokevirtual 277, 3) := by decide +kernel
theorem dX12_merge_74 : decode cX12_merge 74 = .ok (.istore_n 2, 1) := by decide +kernel
theorem dX12_merge_75 : decode cX12_merge 75 = .ok (.iload_n 2, 1) := by decide +kernel
theorem dX12_merge_76 : decode cX12_merge 76 = .ok (.aload_n 0, 1) := by decide +kernel
theorem dX12_merge_77 : decode cX12_merge 77 = .ok (.getfield 195, 3) := by decide +kernel
theorem dX12_merge_80 : decode cX12_merge 80 = .ok (.if_icmp .eq 19, 3) := by decide +kernel
theorem dX12_merge_83 : decode cX12_merge 83 = .ok (.aload_n 0, 1) := by decide +kernel
theorem dX12_merge_84 : decode cX12_merge 84 = .ok (.getfield 57, 3) := by decide +kernel
theorem dX12_merge_87 : decode cX12_merge 87 = .ok (.iload_n 2, 1) := by decide +kernel
theorem dX12_merge_88 : decode cX12_merge 88 = .ok (.laload, 1) := by decide +kernel
theorem dX12_merge_89 : decode cX12_merge 89 = .ok (.aload_n 0, 1) := by decide +kernel
theorem dX12_merge_90 : decode cX12_merge 90 = .ok (.getfield 76, 3) := by decide +kernel
theorem dX12_merge_93 : decode cX12_merge 93 = .ok (.iload_n 1, 1) := by decide +kernel
theorem dX12_merge_94 : decode cX12_merge 94 = .ok (.laload, 1) := by decide +kernel
theorem dX12_merge_95 : decode cX12_merge 95 = .ok (.lcmp, 1) := by decide +kernel
theorem dX12_merge_96 : decode cX12_merge 96 = .ok (.ifCond .eq 97, 3) := by decide +kernel
theorem dX12_merge_99 : decode cX12_merge 99 = .ok (.aload_n 0, 1) := by decide +kernel
theorem dX12_merge_100 : decode cX12_merge 100 = .ok (.getfield 195, 3) := by decide +kernel
theorem dX12_merge_103 : decode cX12_merge 103 = .ok (.istore_n 3, 1) := by decide +kernel
theorem dX12_merge_104 : decode cX12_merge 104 = .ok (.iload_n 3, 1) := by decide +kernel
theorem dX12_merge_105 : decode cX12_merge 105 = .ok (.iload_n 2, 1) := by decide +kernel
theorem dX12_merge_106 : decode cX12_merge 106 = .ok (.if_icmp .le 51, 3) := by decide +kernel
theorem dX12_merge_109 : decode cX12_merge 109 = .ok (.aload_n 0, 1) := by decide +kernel
theorem dX12_merge_110 : decode cX12_merge 110 = .ok (.getfield 57, 3) := by decide +kernel
theorem dX12_merge_113 : decode cX12_merge 113 = .ok (.iload_n 3, 1) := by decide +kernel
theorem dX12_merge_114 : decode cX12_merge 114 = .ok (.aload_n 0, 1) := by decide +kernel
theorem dX12_merge_115 : decode cX12_merge 115 = .ok (.getfield 57, 3) := by decide +kernel
theorem dX12_merge_118 : decode cX12_merge 118 = .ok (.iload_n 3, 1) := by decide +kernel
theorem dX12_merge_119 : decode cX12_merge 119 = .ok (.iconst 1, 1) := by decide +kernel
theorem dX12_merge_120 : decode cX12_merge 120 = .ok (.isub, 1) := by decide +kernel
theorem dX12_merge_121 : decode cX12_merge 121 = .ok (.laload, 1) := by decide +kernel
theorem dX12_merge_122 : decode cX12_merge 122 = .ok (.lastore, 1) := by decide +kernel
theorem dX12_merge_123 : decode cX12_merge 123 = .ok (.aload_n 0, 1) := by decide +kernel
theorem dX12_merge_124 : decode cX12_merge 124 = .ok (.getfield 60, 3) := by decide +kernel
theorem dX12_merge_127 : decode cX12_merge 127 = .ok (.iload_n 3, 1) := by decide +kernel
theorem dX12_merge_128 : decode cX12_merge 128 = .ok (.aload_n 0, 1) := by decide +kernel
theorem dX12_merge_129 : decode cX12_merge 129 = .ok (.getfield 60, 3) := by decide +kernel
theorem dX12_merge_132 : decode cX12_merge 132 = .ok (.iload_n 3, 1) := by decide +kernel
theorem dX12_merge_133 : decode cX12_merge 133 = .ok (.iconst 1, 1) := by decide +kernel
theorem dX12_merge_134 : decode cX12_merge 134 = .ok (.isub, 1) := by decide +kernel
theorem dX12_merge_135 : decode cX12_merge 135 = .ok (.iaload, 1) := by decide +kernel
theorem dX12_merge_136 : decode cX12_merge 136 = .ok (.iastore, 1) := by decide +kernel
theorem dX12_merge_137 : decode cX12_merge 137 = .ok (.aload_n 0, 1) := by decide +kernel
theorem dX12_merge_138 : decode cX12_merge 138 = .ok (.getfield 70, 3) := by decide +kernel
theorem dX12_merge_141 : decode cX12_merge 141 = .ok (.iload_n 3, 1) := by decide +kernel
theorem dX12_merge_142 : decode cX12_merge 142 = .ok (.aload_n 0, 1) := by decide +kernel
theorem dX12_merge_143 : decode cX12_merge 143 = .ok (.getfield 70, 3) := by decide +kernel
theorem dX12_merge_146 : decode cX12_merge 146 = .ok (.iload_n 3, 1) := by decide +kernel
theorem dX12_merge_147 : decode cX12_merge 147 = .ok (.iconst 1, 1) := by decide +kernel
theorem dX12_merge_148 : decode cX12_merge 148 = .ok (.isub, 1) := by decide +kernel
theorem dX12_merge_149 : decode cX12_merge 149 = .ok (.laload, 1) := by decide +kernel
theorem dX12_merge_150 : decode cX12_merge 150 = .ok (.lastore, 1) := by decide +kernel
theorem dX12_merge_151 : decode cX12_merge 151 = .ok (.iinc 3 (-1), 3) := by decide +kernel
theorem dX12_merge_154 : decode cX12_merge 154 = .ok (.goto (-50), 3) := by decide +kernel
theorem dX12_merge_157 : decode cX12_merge 157 = .ok (.aload_n 0, 1) := by decide +kernel
theorem dX12_merge_158 : decode cX12_merge 158 = .ok (.getfield 57, 3) := by decide +kernel
theorem dX12_merge_161 : decode cX12_merge 161 = .ok (.iload_n 2, 1) := by decide +kernel
theorem dX12_merge_162 : decode cX12_merge 162 = .ok (.aload_n 0, 1) := by decide +kernel
theorem dX12_merge_163 : decode cX12_merge 163 = .ok (.getfield 76, 3) := by decide +kernel
theorem dX12_merge_166 : decode cX12_merge 166 = .ok (.iload_n 1, 1) := by decide +kernel
theorem dX12_merge_167 : decode cX12_merge 167 = .ok (.laload, 1) := by decide +kernel
theorem dX12_merge_168 : decode cX12_merge 168 = .ok (.lastore, 1) := by decide +kernel
theorem dX12_merge_169 : decode cX12_merge 169 = .ok (.aload_n 0, 1) := by decide +kernel
theorem dX12_merge_170 : decode cX12_merge 170 = .ok (.getfield 60, 3) := by decide +kernel
theorem dX12_merge_173 : decode cX12_merge 173 = .ok (.iload_n 2, 1) := by decide +kernel
theorem dX12_merge_174 : decode cX12_merge 174 = .ok (.iconst 0, 1) := by decide +kernel
theorem dX12_merge_175 : decode cX12_merge 175 = .ok (.iastore, 1) := by decide +kernel
theorem dX12_merge_176 : decode cX12_merge 176 = .ok (.aload_n 0, 1) := by decide +kernel
theorem dX12_merge_177 : decode cX12_merge 177 = .ok (.getfield 70, 3) := by decide +kernel
theorem dX12_merge_180 : decode cX12_merge 180 = .ok (.iload_n 2, 1) := by decide +kernel
theorem dX12_merge_181 : decode cX12_merge 181 = .ok (.lconst 0, 1) := by decide +kernel
theorem dX12_merge_182 : decode cX12_merge 182 = .ok (.lastore, 1) := by decide +kernel
theorem dX12_merge_183 : decode cX12_merge 183 = .ok (.aload_n 0, 1) := by decide +kernel
theorem dX12_merge_184 : decode cX12_merge 184 = .ok (.dup, 1) := by decide +kernel
theorem dX12_merge_185 : decode cX12_merge 185 = .ok (.getfield 195, 3) := by decide +kernel
theorem dX12_merge_188 : decode cX12_merge 188 = .ok (.iconst 1, 1) := by decide +kernel
theorem dX12_merge_189 : decode cX12_merge 189 = .ok (.iadd, 1) := by decide +kernel
theorem dX12_merge_190 : decode cX12_merge 190 = .ok (.putfield 195, 3) := by decide +kernel
theorem dX12_merge_193 : decode cX12_merge 193 = .ok (.aload_n 0, 1) := by decide +kernel
theorem dX12_merge_194 : decode cX12_merge 194 = .ok (.getfield 60, 3) := by decide +kernel
theorem dX12_merge_197 : decode cX12_merge 197 = .ok (.iload_n 2, 1) := by decide +kernel
theorem dX12_merge_198 : decode cX12_merge 198 = .ok (.dup2, 1) := by decide +kernel
theorem dX12_merge_199 : decode cX12_merge 199 = .ok (.iaload, 1) := by decide +kernel
theorem dX12_merge_200 : decode cX12_merge 200 = .ok (.iconst 1, 1) := by decide +kernel
theorem dX12_merge_201 : decode cX12_merge 201 = .ok (.iadd, 1) := by decide +kernel
theorem dX12_merge_202 : decode cX12_merge 202 = .ok (.iastore, 1) := by decide +kernel
theorem dX12_merge_203 : decode cX12_merge 203 = .ok (.aload_n 0, 1) := by decide +kernel
theorem dX12_merge_204 : decode cX12_merge 204 = .ok (.getfield 70, 3) := by decide +kernel
theorem dX12_merge_207 : decode cX12_merge 207 = .ok (.iload_n 2, 1) := by decide +kernel
theorem dX12_merge_208 : decode cX12_merge 208 = .ok (.aload_n 0, 1) := by decide +kernel
theorem dX12_merge_209 : decode cX12_merge 209 = .ok (.getfield 70, 3) := by decide +kernel
theorem dX12_merge_212 : decode cX12_merge 212 = .ok (.iload_n 2, 1) := by decide +kernel
theorem dX12_merge_213 : decode cX12_merge 213 = .ok (.laload, 1) := by decide +kernel
theorem dX12_merge_214 : decode cX12_merge 214 = .ok (.aload_n 0, 1) := by decide +kernel
theorem dX12_merge_215 : decode cX12_merge 215 = .ok (.getfield 51, 3) := by decide +kernel
theorem dX12_merge_218 : decode cX12_merge 218 = .ok (.iload_n 1, 1) := by decide +kernel
theorem dX12_merge_219 : decode cX12_merge 219 = .ok (.iaload, 1) := by decide +kernel
theorem dX12_merge_220 : decode cX12_merge 220 = .ok (.i2l, 1) := by decide +kernel
theorem dX12_merge_221 : decode cX12_merge 221 = .ok (.ladd, 1) := by decide +kernel
theorem dX12_merge_222 : decode cX12_merge 222 = .ok (.lastore, 1) := by decide +kernel
theorem dX12_merge_223 : decode cX12_merge 223 = .ok (.iinc 1 1, 3) := by decide +kernel
theorem dX12_merge_226 : decode cX12_merge 226 = .ok (.goto (-198), 3) := by decide +kernel
theorem dX12_merge_229 : decode cX12_merge 229 = .ok (.iconst 0, 1) := by decide +kernel
theorem dX12_merge_230 : decode cX12_merge 230 = .ok (.istore_n 1, 1) := by decide +kernel
theorem dX12_merge_231 : decode cX12_merge 231 = .ok (.iload_n 1, 1) := by decide +kernel
theorem dX12_merge_232 : decode cX12_merge 232 = .ok (.aload_n 0, 1) := by decide +kernel
theorem dX12_merge_233 : decode cX12_merge 233 = .ok (.getfield 195, 3) := by decide +kernel
theorem dX12_merge_236 : decode cX12_merge 236 = .ok (.if_icmp .ge 78, 3) := by decide +kernel
theorem dX12_merge_239 : decode cX12_merge 239 = .ok (.aload_n 0, 1) := by decide +kernel
theorem dX12_merge_240 : decode cX12_merge 240 = .ok (.getfield 57, 3) := by decide +kernel
theorem dX12_merge_243 : decode cX12_merge 243 = .ok (.iload_n 1, 1) := by decide +kernel
theorem dX12_merge_244 : decode cX12_merge 244 = .ok (.laload, 1) := by decide +kernel
theorem dX12_merge_245 : decode cX12_merge 245 = .ok (.iconst 0, 1) := by decide +kernel
theorem dX12_merge_246 : decode cX12_merge 246 = .ok (.invokestatic 244, 3) := by decide +kernel
theorem dX12_merge_249 : decode cX12_merge 249 = .ok (.istore_n 2, 1) := by decide +kernel
theorem dX12_merge_250 : decode cX12_merge 250 = .ok (.aload_n 0, 1) := by decide +kernel
theorem dX12_merge_251 : decode cX12_merge 251 = .ok (.getfield 57, 3) := by decide +kernel
theorem dX12_merge_254 : decode cX12_merge 254 = .ok (.iload_n 1, 1) := by decide +kernel
theorem dX12_merge_255 : decode cX12_merge 255 = .ok (.laload, 1) := by decide +kernel
theorem dX12_merge_256 : decode cX12_merge 256 = .ok (.iconst 1, 1) := by decide +kernel
theorem dX12_merge_257 : decode cX12_merge 257 = .ok (.invokestatic 244, 3) := by decide +kernel
theorem dX12_merge_260 : decode cX12_merge 260 = .ok (.istore_n 3, 1) := by decide +kernel
theorem dX12_merge_261 : decode cX12_merge 261 = .ok (.aload_n 0, 1) := by decide +kernel
theorem dX12_merge_262 : decode cX12_merge 262 = .ok (.getfield 57, 3) := by decide +kernel
theorem dX12_merge_265 : decode cX12_merge 265 = .ok (.iload_n 1, 1) := by decide +kernel
theorem dX12_merge_266 : decode cX12_merge 266 = .ok (.laload, 1) := by decide +kernel
theorem dX12_merge_267 : decode cX12_merge 267 = .ok (.iconst 2, 1) := by decide +kernel
theorem dX12_merge_268 : decode cX12_merge 268 = .ok (.invokestatic 244, 3) := by decide +kernel
theorem dX12_merge_271 : decode cX12_merge 271 = .ok (.istore 4, 2) := by decide +kernel
theorem dX12_merge_273 : decode cX12_merge 273 = .ok (.aload_n 0, 1) := by decide +kernel
theorem dX12_merge_274 : decode cX12_merge 274 = .ok (.getfield 63, 3) := by decide +kernel
theorem dX12_merge_277 : decode cX12_merge 277 = .ok (.iload_n 1, 1) := by decide +kernel
theorem dX12_merge_278 : decode cX12_merge 278 = .ok (.aload_n 0, 1) := by decide +kernel
theorem dX12_merge_279 : decode cX12_merge 279 = .ok (.iload_n 2, 1) := by decide +kernel
theorem dX12_merge_280 : decode cX12_merge 280 = .ok (.iload_n 3, 1) := by decide +kernel
theorem dX12_merge_281 : decode cX12_merge 281 = .ok (.iload 4, 2) := by decide +kernel
theorem dX12_merge_283 : decode cX12_merge 283 = .ok (.invokevirtual 237, 3) := by decide +kernel
theorem dX12_merge_286 : decode cX12_merge 286 = .ok (.iastore, 1) := by decide +kernel
theorem dX12_merge_287 : decode cX12_merge 287 = .ok (.aload_n 0, 1) := by decide +kernel
theorem dX12_merge_288 : decode cX12_merge 288 = .ok (.getfield 66, 3) := by decide +kernel
theorem dX12_merge_291 : decode cX12_merge 291 = .ok (.iload_n 1, 1) := by decide +kernel
theorem dX12_merge_292 : decode cX12_merge 292 = .ok (.aload_n 0, 1) := by decide +kernel
theorem dX12_merge_293 : decode cX12_merge 293 = .ok (.iload_n 2, 1) := by decide +kernel
theorem dX12_merge_294 : decode cX12_merge 294 = .ok (.iload_n 3, 1) := by decide +kernel
theorem dX12_merge_295 : decode cX12_merge 295 = .ok (.iload 4, 2) := by decide +kernel
theorem dX12_merge_297 : decode cX12_merge 297 = .ok (.invokevirtual 216, 3) := by decide +kernel
theorem dX12_merge_300 : decode cX12_merge 300 = .ok (.bastore, 1) := by decide +kernel
theorem dX12_merge_301 : decode cX12_merge 301 = .ok (.aload_n 0, 1) := by decide +kernel
theorem dX12_merge_302 : decode cX12_merge 302 = .ok (.getfield 73, 3) := by decide +kernel
theorem dX12_merge_305 : decode cX12_merge 305 = .ok (.iload_n 1, 1) := by decide +kernel
theorem dX12_merge_306 : decode cX12_merge 306 = .ok (.lconst 0, 1) := by decide +kernel
theorem dX12_merge_307 : decode cX12_merge 307 = .ok (.lastore, 1) := by decide +kernel
theorem dX12_merge_308 : decode cX12_merge 308 = .ok (.iinc 1 1, 3) := by decide +kernel
theorem dX12_merge_311 : decode cX12_merge 311 = .ok (.goto (-80), 3) := by decide +kernel
theorem dX12_merge_314 : decode cX12_merge 314 = .ok (.iconst 0, 1) := by decide +kernel
theorem dX12_merge_315 : decode cX12_merge 315 = .ok (.istore_n 1, 1) := by decide +kernel
theorem dX12_merge_316 : decode cX12_merge 316 = .ok (.iload_n 1, 1) := by decide +kernel
theorem dX12_merge_317 : decode cX12_merge 317 = .ok (.aload_n 0, 1) := by decide +kernel
theorem dX12_merge_318 : decode cX12_merge 318 = .ok (.getfield 271, 3) := by decide +kernel
theorem dX12_merge_321 : decode cX12_merge 321 = .ok (.if_icmp .ge 68, 3) := by decide +kernel
theorem dX12_merge_324 : decode cX12_merge 324 = .ok (.aload_n 0, 1) := by decide +kernel
theorem dX12_merge_325 : decode cX12_merge 325 = .ok (.aload_n 0, 1) := by decide +kernel
theorem dX12_merge_326 : decode cX12_merge 326 = .ok (.getfield 76, 3) := by decide +kernel
theorem dX12_merge_329 : decode cX12_merge 329 = .ok (.iload_n 1, 1) := by decide +kernel
theorem dX12_merge_330 : decode cX12_merge 330 = .ok (.laload, 1) := by decide +kernel
theorem dX12_merge_331 : decode cX12_merge 331 = .ok (.invokevirtual 277, 3) := by decide +kernel
theorem dX12_merge_334 : decode cX12_merge 334 = .ok (.istore_n 2, 1) := by decide +kernel
theorem dX12_merge_335 : decode cX12_merge 335 = .ok (.aload_n 0, 1) := by decide +kernel
theorem dX12_merge_336 : decode cX12_merge 336 = .ok (.getfield 60, 3) := by decide +kernel
theorem dX12_merge_339 : decode cX12_merge 339 = .ok (.iload_n 2, 1) := by decide +kernel
theorem dX12_merge_340 : decode cX12_merge 340 = .ok (.iaload, 1) := by decide +kernel
theorem dX12_merge_341 : decode cX12_merge 341 = .ok (.i2l, 1) := by decide +kernel
theorem dX12_merge_342 : decode cX12_merge 342 = .ok (.aload_n 0, 1) := by decide +kernel
theorem dX12_merge_343 : decode cX12_merge 343 = .ok (.getfield 51, 3) := by decide +kernel
theorem dX12_merge_346 : decode cX12_merge 346 = .ok (.iload_n 1, 1) := by decide +kernel
theorem dX12_merge_347 : decode cX12_merge 347 = .ok (.iaload, 1) := by decide +kernel
theorem dX12_merge_348 : decode cX12_merge 348 = .ok (.i2l, 1) := by decide +kernel
theorem dX12_merge_349 : decode cX12_merge 349 = .ok (.lmul, 1) := by decide +kernel
theorem dX12_merge_350 : decode cX12_merge 350 = .ok (.aload_n 0, 1) := by decide +kernel
theorem dX12_merge_351 : decode cX12_merge 351 = .ok (.getfield 70, 3) := by decide +kernel
theorem dX12_merge_354 : decode cX12_merge 354 = .ok (.iload_n 2, 1) := by decide +kernel
theorem dX12_merge_355 : decode cX12_merge 355 = .ok (.laload, 1) := by decide +kernel
theorem dX12_merge_356 : decode cX12_merge 356 = .ok (.lsub, 1) := by decide +kernel
theorem dX12_merge_357 : decode cX12_merge 357 = .ok (.lstore_n 3, 1) := by decide +kernel
theorem dX12_merge_358 : decode cX12_merge 358 = .ok (.aload_n 0, 1) := by decide +kernel
theorem dX12_merge_359 : decode cX12_merge 359 = .ok (.getfield 73, 3) := by decide +kernel
theorem dX12_merge_362 : decode cX12_merge 362 = .ok (.iload_n 2, 1) := by decide +kernel
theorem dX12_merge_363 : decode cX12_merge 363 = .ok (.aload_n 0, 1) := by decide +kernel
theorem dX12_merge_364 : decode cX12_merge 364 = .ok (.getfield 73, 3) := by decide +kernel
theorem dX12_merge_367 : decode cX12_merge 367 = .ok (.iload_n 2, 1) := by decide +kernel
theorem dX12_merge_368 : decode cX12_merge 368 = .ok (.laload, 1) := by decide +kernel
theorem dX12_merge_369 : decode cX12_merge 369 = .ok (.lload_n 3, 1) := by decide +kernel
theorem dX12_merge_370 : decode cX12_merge 370 = .ok (.lconst 0, 1) := by decide +kernel
theorem dX12_merge_371 : decode cX12_merge 371 = .ok (.lcmp, 1) := by decide +kernel
theorem dX12_merge_372 : decode cX12_merge 372 = .ok (.ifCond .ge 8, 3) := by decide +kernel
theorem dX12_merge_375 : decode cX12_merge 375 = .ok (.lload_n 3, 1) := by decide +kernel
theorem dX12_merge_376 : decode cX12_merge 376 = .ok (.lneg, 1) := by decide +kernel
theorem dX12_merge_377 : decode cX12_merge 377 = .ok (.goto 4, 3) := by decide +kernel
theorem dX12_merge_380 : decode cX12_merge 380 = .ok (.lload_n 3, 1) := by decide +kernel
theorem dX12_merge_381 : decode cX12_merge 381 = .ok (.ladd, 1) := by decide +kernel
theorem dX12_merge_382 : decode cX12_merge 382 = .ok (.lastore, 1) := by decide +kernel
theorem dX12_merge_383 : decode cX12_merge 383 = .ok (.iinc 1 1, 3) := by decide +kernel
theorem dX12_merge_386 : decode cX12_merge 386 = .ok (.goto (-70), 3) := by decide +kernel
theorem dX12_merge_389 : decode cX12_merge 389 = .ok (.aload_n 0, 1) := by decide +kernel
theorem dX12_merge_390 : decode cX12_merge 390 = .ok (.getfield 195, 3) := by decide +kernel
theorem dX12_merge_393 : decode cX12_merge 393 = .ok (.ireturn, 1) := by decide +kernel
theorem dX12_rows_0 : decode cX12_rows 0 = .ok (.aload_n 0, 1) := by decide +kernel
theorem dX12_rows_1 : decode cX12_rows 1 = .ok (.iconst 0, 1) := by decide +kernel
theorem dX12_rows_2 : decode cX12_rows 2 = .ok (.putfield 85, 3) := by decide +kernel
theorem dX12_rows_5 : decode cX12_rows 5 = .ok (.aload_n 0, 1) := by decide +kernel
theorem dX12_rows_6 : decode cX12_rows 6 = .ok (.getfield 195, 3) := by decide +kernel
theorem dX12_rows_9 : decode cX12_rows 9 = .ok (.ireturn, 1) := by decide +kernel
theorem dX12_common_0 : decode cX12_common 0 = .ok (.lload_n 0, 1) := by decide +kernel
theorem dX12_common_1 : decode cX12_common 1 = .ok (.lconst 0, 1) := by decide +kernel
theorem dX12_common_2 : decode cX12_common 2 = .ok (.lcmp, 1) := by decide +kernel
theorem dX12_common_3 : decode cX12_common 3 = .ok (.ifCond .ge 8, 3) := by decide +kernel
theorem dX12_common_6 : decode cX12_common 6 = .ok (.lload_n 0, 1) := by decide +kernel
theorem dX12_common_7 : decode cX12_common 7 = .ok (.lneg, 1) := by decide +kernel
theorem dX12_common_8 : decode cX12_common 8 = .ok (.goto 4, 3) := by decide +kernel
theorem dX12_common_11 : decode cX12_common 11 = .ok (.lload_n 0, 1) := by decide +kernel
theorem dX12_common_12 : decode cX12_common 12 = .ok (.lstore 4, 2) := by decide +kernel
theorem dX12_common_14 : decode cX12_common 14 = .ok (.lload_n 2, 1) := by decide +kernel
theorem dX12_common_15 : decode cX12_common 15 = .ok (.lstore 6, 2) := by decide +kernel
theorem dX12_common_17 : decode cX12_common 17 = .ok (.lload 6, 2) := by decide +kernel
theorem dX12_common_19 : decode cX12_common 19 = .ok (.lconst 0, 1) := by decide +kernel
theorem dX12_common_20 : decode cX12_common 20 = .ok (.lcmp, 1) := by decide +kernel
theorem dX12_common_21 : decode cX12_common 21 = .ok (.ifCond .eq 21, 3) := by decide +kernel
theorem dX12_common_24 : decode cX12_common 24 = .ok (.lload 4, 2) := by decide +kernel
theorem dX12_common_26 : decode cX12_common 26 = .ok (.lload 6, 2) := by decide +kernel
theorem dX12_common_28 : decode cX12_common 28 = .ok (.lrem, 1) := by decide +kernel
theorem dX12_common_29 : decode cX12_common 29 = .ok (.lstore 8, 2) := by decide +kernel
theorem dX12_common_31 : decode cX12_common 31 = .ok (.lload 6, 2) := by decide +kernel
theorem dX12_common_33 : decode cX12_common 33 = .ok (.lstore 4, 2) := by decide +kernel
theorem dX12_common_35 : decode cX12_common 35 = .ok (.lload 8, 2) := by decide +kernel
theorem dX12_common_37 : decode cX12_common 37 = .ok (.lstore 6, 2) := by decide +kernel
theorem dX12_common_39 : decode cX12_common 39 = .ok (.goto (-22), 3) := by decide +kernel
theorem dX12_common_42 : decode cX12_common 42 = .ok (.lload 4, 2) := by decide +kernel
theorem dX12_common_44 : decode cX12_common 44 = .ok (.lreturn, 1) := by decide +kernel
theorem dX12_row_0 : decode cX12_row 0 = .ok (.aload_n 0, 1) := by decide +kernel
theorem dX12_row_1 : decode cX12_row 1 = .ok (.iload_n 1, 1) := by decide +kernel
theorem dX12_row_2 : decode cX12_row 2 = .ok (.iconst 0, 1) := by decide +kernel
theorem dX12_row_3 : decode cX12_row 3 = .ok (.aload_n 0, 1) := by decide +kernel
theorem dX12_row_4 : decode cX12_row 4 = .ok (.getfield 195, 3) := by decide +kernel
theorem dX12_row_7 : decode cX12_row 7 = .ok (.iconst 1, 1) := by decide +kernel
theorem dX12_row_8 : decode cX12_row 8 = .ok (.isub, 1) := by decide +kernel
theorem dX12_row_9 : decode cX12_row 9 = .ok (.invokestatic 96, 3) := by decide +kernel
theorem dX12_row_12 : decode cX12_row 12 = .ok (.ifCond .eq 17, 3) := by decide +kernel
theorem dX12_row_15 : decode cX12_row 15 = .ok (.iload_n 2, 1) := by decide +kernel
theorem dX12_row_16 : decode cX12_row 16 = .ok (.iconst 0, 1) := by decide +kernel
theorem dX12_row_17 : decode cX12_row 17 = .ok (.bipush 9, 2) := by decide +kernel
theorem dX12_row_19 : decode cX12_row 19 = .ok (.invokestatic 96, 3) := by decide +kernel
theorem dX12_row_22 : decode cX12_row 22 = .ok (.ifCond .eq 7, 3) := by decide +kernel
theorem dX12_row_25 : decode cX12_row 25 = .ok (.iconst 1, 1) := by decide +kernel
theorem dX12_row_26 : decode cX12_row 26 = .ok (.goto 4, 3) := by decide +kernel
theorem dX12_row_29 : decode cX12_row 29 = .ok (.iconst 0, 1) := by decide +kernel
theorem dX12_row_30 : decode cX12_row 30 = .ok (.invokevirtual 92, 3) := by decide +kernel
theorem dX12_row_33 : decode cX12_row 33 = .ok (.ifCond .ne 5, 3) := by decide +kernel
theorem dX12_row_36 : decode cX12_row 36 = .ok (.lconst 0, 1) := by decide +kernel
theorem dX12_row_37 : decode cX12_row 37 = .ok (.lreturn, 1) := by decide +kernel
theorem dX12_row_38 : decode cX12_row 38 = .ok (.aload_n 0, 1) := by decide +kernel
theorem dX12_row_39 : decode cX12_row 39 = .ok (.getfield 70, 3) := by decide +kernel
theorem dX12_row_42 : decode cX12_row 42 = .ok (.iload_n 1, 1) := by decide +kernel
theorem dX12_row_43 : decode cX12_row 43 = .ok (.laload, 1) := by decide +kernel
theorem dX12_row_44 : decode cX12_row 44 = .ok (.aload_n 0, 1) := by decide +kernel
theorem dX12_row_45 : decode cX12_row 45 = .ok (.getfield 60, 3) := by decide +kernel
theorem dX12_row_48 : decode cX12_row 48 = .ok (.iload_n 1, 1) := by decide +kernel
theorem dX12_row_49 : decode cX12_row 49 = .ok (.iaload, 1) := by decide +kernel
theorem dX12_row_50 : decode cX12_row 50 = .ok (.i2l, 1) := by decide +kernel
theorem dX12_row_51 : decode cX12_row 51 = .ok (.invokestatic 281, 3) := by decide +kernel
theorem dX12_row_54 : decode cX12_row 54 = .ok (.lstore_n 3, 1) := by decide +kernel
theorem dX12_row_55 : decode cX12_row 55 = .ok (.iload_n 2, 1) := by decide +kernel
theorem dX12_row_56 : decode cX12_row 56 = .ok (.tableswitch 108 3 9 #[44, 52, 60, 75, 82, 91, 101], 44) := by decide +kernel
theorem dX12_row_100 : decode cX12_row 100 = .ok (.aload_n 0, 1) := by decide +kernel
theorem dX12_row_101 : decode cX12_row 101 = .ok (.getfield 60, 3) := by decide +kernel
theorem dX12_row_104 : decode cX12_row 104 = .ok (.iload_n 1, 1) := by decide +kernel
theorem dX12_row_105 : decode cX12_row 105 = .ok (.iaload, 1) := by decide +kernel
theorem dX12_row_106 : decode cX12_row 106 = .ok (.i2l, 1) := by decide +kernel
theorem dX12_row_107 : decode cX12_row 107 = .ok (.lreturn, 1) := by decide +kernel
theorem dX12_row_108 : decode cX12_row 108 = .ok (.aload_n 0, 1) := by decide +kernel
theorem dX12_row_109 : decode cX12_row 109 = .ok (.getfield 63, 3) := by decide +kernel
theorem dX12_row_112 : decode cX12_row 112 = .ok (.iload_n 1, 1) := by decide +kernel
theorem dX12_row_113 : decode cX12_row 113 = .ok (.iaload, 1) := by decide +kernel
theorem dX12_row_114 : decode cX12_row 114 = .ok (.i2l, 1) := by decide +kernel
theorem dX12_row_115 : decode cX12_row 115 = .ok (.lreturn, 1) := by decide +kernel
theorem dX12_row_116 : decode cX12_row 116 = .ok (.aload_n 0, 1) := by decide +kernel
theorem dX12_row_117 : decode cX12_row 117 = .ok (.getfield 66, 3) := by decide +kernel
theorem dX12_row_120 : decode cX12_row 120 = .ok (.iload_n 1, 1) := by decide +kernel
theorem dX12_row_121 : decode cX12_row 121 = .ok (.baload, 1) := by decide +kernel
theorem dX12_row_122 : decode cX12_row 122 = .ok (.ifCond .eq 7, 3) := by decide +kernel
theorem dX12_row_125 : decode cX12_row 125 = .ok (.lconst 1, 1) := by decide +kernel
theorem dX12_row_126 : decode cX12_row 126 = .ok (.goto 4, 3) := by decide +kernel
theorem dX12_row_129 : decode cX12_row 129 = .ok (.lconst 0, 1) := by decide +kernel
theorem dX12_row_130 : decode cX12_row 130 = .ok (.lreturn, 1) := by decide +kernel
theorem dX12_row_131 : decode cX12_row 131 = .ok (.aload_n 0, 1) := by decide +kernel
theorem dX12_row_132 : decode cX12_row 132 = .ok (.getfield 70, 3) := by decide +kernel
theorem dX12_row_135 : decode cX12_row 135 = .ok (.iload_n 1, 1) := by decide +kernel
theorem dX12_row_136 : decode cX12_row 136 = .ok (.laload, 1) := by decide +kernel
theorem dX12_row_137 : decode cX12_row 137 = .ok (.lreturn, 1) := by decide +kernel
theorem dX12_row_138 : decode cX12_row 138 = .ok (.aload_n 0, 1) := by decide +kernel
theorem dX12_row_139 : decode cX12_row 139 = .ok (.getfield 70, 3) := by decide +kernel
theorem dX12_row_142 : decode cX12_row 142 = .ok (.iload_n 1, 1) := by decide +kernel
theorem dX12_row_143 : decode cX12_row 143 = .ok (.laload, 1) := by decide +kernel
theorem dX12_row_144 : decode cX12_row 144 = .ok (.lload_n 3, 1) := by decide +kernel
theorem dX12_row_145 : decode cX12_row 145 = .ok (.ldiv, 1) := by decide +kernel
theorem dX12_row_146 : decode cX12_row 146 = .ok (.lreturn, 1) := by decide +kernel
theorem dX12_row_147 : decode cX12_row 147 = .ok (.aload_n 0, 1) := by decide +kernel
theorem dX12_row_148 : decode cX12_row 148 = .ok (.getfield 60, 3) := by decide +kernel
theorem dX12_row_151 : decode cX12_row 151 = .ok (.iload_n 1, 1) := by decide +kernel
theorem dX12_row_152 : decode cX12_row 152 = .ok (.iaload, 1) := by decide +kernel
theorem dX12_row_153 : decode cX12_row 153 = .ok (.i2l, 1) := by decide +kernel
theorem dX12_row_154 : decode cX12_row 154 = .ok (.lload_n 3, 1) := by decide +kernel
theorem dX12_row_155 : decode cX12_row 155 = .ok (.ldiv, 1) := by decide +kernel
theorem dX12_row_156 : decode cX12_row 156 = .ok (.lreturn, 1) := by decide +kernel
theorem dX12_row_157 : decode cX12_row 157 = .ok (.aload_n 0, 1) := by decide +kernel
theorem dX12_row_158 : decode cX12_row 158 = .ok (.getfield 73, 3) := by decide +kernel
theorem dX12_row_161 : decode cX12_row 161 = .ok (.iload_n 1, 1) := by decide +kernel
theorem dX12_row_162 : decode cX12_row 162 = .ok (.laload, 1) := by decide +kernel
theorem dX12_row_163 : decode cX12_row 163 = .ok (.lreturn, 1) := by decide +kernel
theorem dX12_row_164 : decode cX12_row 164 = .ok (.aload_n 0, 1) := by decide +kernel
theorem dX12_row_165 : decode cX12_row 165 = .ok (.getfield 57, 3) := by decide +kernel
theorem dX12_row_168 : decode cX12_row 168 = .ok (.iload_n 1, 1) := by decide +kernel
theorem dX12_row_169 : decode cX12_row 169 = .ok (.laload, 1) := by decide +kernel
theorem dX12_row_170 : decode cX12_row 170 = .ok (.iload_n 2, 1) := by decide +kernel
theorem dX12_row_171 : decode cX12_row 171 = .ok (.invokestatic 244, 3) := by decide +kernel
theorem dX12_row_174 : decode cX12_row 174 = .ok (.i2l, 1) := by decide +kernel
theorem dX12_row_175 : decode cX12_row 175 = .ok (.lreturn, 1) := by decide +kernel
theorem dX12_clear_0 : decode cX12_clear 0 = .ok (.iconst 0, 1) := by decide +kernel
theorem dX12_clear_1 : decode cX12_clear 1 = .ok (.istore_n 3, 1) := by decide +kernel
theorem dX12_clear_2 : decode cX12_clear 2 = .ok (.iload_n 3, 1) := by decide +kernel
theorem dX12_clear_3 : decode cX12_clear 3 = .ok (.bipush 64, 2) := by decide +kernel
theorem dX12_clear_5 : decode cX12_clear 5 = .ok (.if_icmp .ge 18, 3) := by decide +kernel
theorem dX12_clear_8 : decode cX12_clear 8 = .ok (.aload_n 0, 1) := by decide +kernel
theorem dX12_clear_9 : decode cX12_clear 9 = .ok (.getfield 79, 3) := by decide +kernel
theorem dX12_clear_12 : decode cX12_clear 12 = .ok (.iload_n 1, 1) := by decide +kernel
theorem dX12_clear_13 : decode cX12_clear 13 = .ok (.iload_n 3, 1) := by decide +kernel
theorem dX12_clear_14 : decode cX12_clear 14 = .ok (.iadd, 1) := by decide +kernel
theorem dX12_clear_15 : decode cX12_clear 15 = .ok (.iconst 0, 1) := by decide +kernel
theorem dX12_clear_16 : decode cX12_clear 16 = .ok (.iastore, 1) := by decide +kernel
theorem dX12_clear_17 : decode cX12_clear 17 = .ok (.iinc 3 1, 3) := by decide +kernel
theorem dX12_clear_20 : decode cX12_clear 20 = .ok (.goto (-18), 3) := by decide +kernel
theorem dX12_clear_23 : decode cX12_clear 23 = .ok (.aload_n 0, 1) := by decide +kernel
theorem dX12_clear_24 : decode cX12_clear 24 = .ok (.getfield 79, 3) := by decide +kernel
theorem dX12_clear_27 : decode cX12_clear 27 = .ok (.iload_n 1, 1) := by decide +kernel
theorem dX12_clear_28 : decode cX12_clear 28 = .ok (.iload_n 2, 1) := by decide +kernel
theorem dX12_clear_29 : decode cX12_clear 29 = .ok (.iastore, 1) := by decide +kernel
theorem dX12_clear_30 : decode cX12_clear 30 = .ok (.return_, 1) := by decide +kernel
theorem dX12_copy_0 : decode cX12_copy 0 = .ok (.iconst 0, 1) := by decide +kernel
theorem dX12_copy_1 : decode cX12_copy 1 = .ok (.istore_n 3, 1) := by decide +kernel
theorem dX12_copy_2 : decode cX12_copy 2 = .ok (.iload_n 3, 1) := by decide +kernel
theorem dX12_copy_3 : decode cX12_copy 3 = .ok (.bipush 64, 2) := by decide +kernel
theorem dX12_copy_5 : decode cX12_copy 5 = .ok (.if_icmp .ge 25, 3) := by decide +kernel
theorem dX12_copy_8 : decode cX12_copy 8 = .ok (.aload_n 0, 1) := by decide +kernel
theorem dX12_copy_9 : decode cX12_copy 9 = .ok (.getfield 79, 3) := by decide +kernel
theorem dX12_copy_12 : decode cX12_copy 12 = .ok (.iload_n 2, 1) := by decide +kernel
theorem dX12_copy_13 : decode cX12_copy 13 = .ok (.iload_n 3, 1) := by decide +kernel
theorem dX12_copy_14 : decode cX12_copy 14 = .ok (.iadd, 1) := by decide +kernel
theorem dX12_copy_15 : decode cX12_copy 15 = .ok (.aload_n 0, 1) := by decide +kernel
theorem dX12_copy_16 : decode cX12_copy 16 = .ok (.getfield 79, 3) := by decide +kernel
theorem dX12_copy_19 : decode cX12_copy 19 = .ok (.iload_n 1, 1) := by decide +kernel
theorem dX12_copy_20 : decode cX12_copy 20 = .ok (.iload_n 3, 1) := by decide +kernel
theorem dX12_copy_21 : decode cX12_copy 21 = .ok (.iadd, 1) := by decide +kernel
theorem dX12_copy_22 : decode cX12_copy 22 = .ok (.iaload, 1) := by decide +kernel
theorem dX12_copy_23 : decode cX12_copy 23 = .ok (.iastore, 1) := by decide +kernel
theorem dX12_copy_24 : decode cX12_copy 24 = .ok (.iinc 3 1, 3) := by decide +kernel
theorem dX12_copy_27 : decode cX12_copy 27 = .ok (.goto (-25), 3) := by decide +kernel
theorem dX12_copy_30 : decode cX12_copy 30 = .ok (.return_, 1) := by decide +kernel
theorem dX12_times_0 : decode cX12_times 0 = .ok (.lconst 0, 1) := by decide +kernel
theorem dX12_times_1 : decode cX12_times 1 = .ok (.lstore 4, 2) := by decide +kernel
theorem dX12_times_3 : decode cX12_times 3 = .ok (.iconst 0, 1) := by decide +kernel
theorem dX12_times_4 : decode cX12_times 4 = .ok (.istore 6, 2) := by decide +kernel
theorem dX12_times_6 : decode cX12_times 6 = .ok (.iload 6, 2) := by decide +kernel
theorem dX12_times_8 : decode cX12_times 8 = .ok (.bipush 64, 2) := by decide +kernel
theorem dX12_times_10 : decode cX12_times 10 = .ok (.if_icmp .ge 49, 3) := by decide +kernel
theorem dX12_times_13 : decode cX12_times 13 = .ok (.aload_n 0, 1) := by decide +kernel
theorem dX12_times_14 : decode cX12_times 14 = .ok (.getfield 79, 3) := by decide +kernel
theorem dX12_times_17 : decode cX12_times 17 = .ok (.iload_n 1, 1) := by decide +kernel
theorem dX12_times_18 : decode cX12_times 18 = .ok (.iload 6, 2) := by decide +kernel
theorem dX12_times_20 : decode cX12_times 20 = .ok (.iadd, 1) := by decide +kernel
theorem dX12_times_21 : decode cX12_times 21 = .ok (.iaload, 1) := by decide +kernel
theorem dX12_times_22 : decode cX12_times 22 = .ok (.i2l, 1) := by decide +kernel
theorem dX12_times_23 : decode cX12_times 23 = .ok (.lload_n 2, 1) := by decide +kernel
theorem dX12_times_24 : decode cX12_times 24 = .ok (.lmul, 1) := by decide +kernel
theorem dX12_times_25 : decode cX12_times 25 = .ok (.lload 4, 2) := by decide +kernel
theorem dX12_times_27 : decode cX12_times 27 = .ok (.ladd, 1) := by decide +kernel
theorem dX12_times_28 : decode cX12_times 28 = .ok (.lstore 7, 2) := by decide +kernel
theorem dX12_times_30 : decode cX12_times 30 = .ok (.aload_n 0, 1) := by decide +kernel
theorem dX12_times_31 : decode cX12_times 31 = .ok (.getfield 79, 3) := by decide +kernel
theorem dX12_times_34 : decode cX12_times 34 = .ok (.iload_n 1, 1) := by decide +kernel
theorem dX12_times_35 : decode cX12_times 35 = .ok (.iload 6, 2) := by decide +kernel
theorem dX12_times_37 : decode cX12_times 37 = .ok (.iadd, 1) := by decide +kernel
theorem dX12_times_38 : decode cX12_times 38 = .ok (.lload 7, 2) := by decide +kernel
theorem dX12_times_40 : decode cX12_times 40 = .ok (.ldc2_w 285, 3) := by decide +kernel
theorem dX12_times_43 : decode cX12_times 43 = .ok (.land, 1) := by decide +kernel
theorem dX12_times_44 : decode cX12_times 44 = .ok (.l2i, 1) := by decide +kernel
theorem dX12_times_45 : decode cX12_times 45 = .ok (.iastore, 1) := by decide +kernel
theorem dX12_times_46 : decode cX12_times 46 = .ok (.lload 7, 2) := by decide +kernel
theorem dX12_times_48 : decode cX12_times 48 = .ok (.bipush 16, 2) := by decide +kernel
theorem dX12_times_50 : decode cX12_times 50 = .ok (.lshr, 1) := by decide +kernel
theorem dX12_times_51 : decode cX12_times 51 = .ok (.lstore 4, 2) := by decide +kernel
theorem dX12_times_53 : decode cX12_times 53 = .ok (.iinc 6 1, 3) := by decide +kernel
theorem dX12_times_56 : decode cX12_times 56 = .ok (.goto (-50), 3) := by decide +kernel
theorem dX12_times_59 : decode cX12_times 59 = .ok (.return_, 1) := by decide +kernel
theorem dX12_divide_0 : decode cX12_divide 0 = .ok (.lconst 0, 1) := by decide +kernel
theorem dX12_divide_1 : decode cX12_divide 1 = .ok (.lstore_n 3, 1) := by decide +kernel
theorem dX12_divide_2 : decode cX12_divide 2 = .ok (.bipush 63, 2) := by decide +kernel
theorem dX12_divide_4 : decode cX12_divide 4 = .ok (.istore 5, 2) := by decide +kernel
theorem dX12_divide_6 : decode cX12_divide 6 = .ok (.iload 5, 2) := by decide +kernel
theorem dX12_divide_8 : decode cX12_divide 8 = .ok (.ifCond .lt 48, 3) := by decide +kernel
theorem dX12_divide_11 : decode cX12_divide 11 = .ok (.lload_n 3, 1) := by decide +kernel
theorem dX12_divide_12 : decode cX12_divide 12 = .ok (.ldc2_w 287, 3) := by decide +kernel
theorem dX12_divide_15 : decode cX12_divide 15 = .ok (.lmul, 1) := by decide +kernel
theorem dX12_divide_16 : decode cX12_divide 16 = .ok (.aload_n 0, 1) := by decide +kernel
theorem dX12_divide_17 : decode cX12_divide 17 = .ok (.getfield 79, 3) := by decide +kernel
theorem dX12_divide_20 : decode cX12_divide 20 = .ok (.iload_n 1, 1) := by decide +kernel
theorem dX12_divide_21 : decode cX12_divide 21 = .ok (.iload 5, 2) := by decide +kernel
theorem dX12_divide_23 : decode cX12_divide 23 = .ok (.iadd, 1) := by decide +kernel
theorem dX12_divide_24 : decode cX12_divide 24 = .ok (.iaload, 1) := by decide +kernel
theorem dX12_divide_25 : decode cX12_divide 25 = .ok (.i2l, 1) := by decide +kernel
theorem dX12_divide_26 : decode cX12_divide 26 = .ok (.ladd, 1) := by decide +kernel
theorem dX12_divide_27 : decode cX12_divide 27 = .ok (.lstore 6, 2) := by decide +kernel
theorem dX12_divide_29 : decode cX12_divide 29 = .ok (.aload_n 0, 1) := by decide +kernel
theorem dX12_divide_30 : decode cX12_divide 30 = .ok (.getfield 79, 3) := by decide +kernel
theorem dX12_divide_33 : decode cX12_divide 33 = .ok (.iload_n 1, 1) := by decide +kernel
theorem dX12_divide_34 : decode cX12_divide 34 = .ok (.iload 5, 2) := by decide +kernel
theorem dX12_divide_36 : decode cX12_divide 36 = .ok (.iadd, 1) := by decide +kernel
theorem dX12_divide_37 : decode cX12_divide 37 = .ok (.lload 6, 2) := by decide +kernel
theorem dX12_divide_39 : decode cX12_divide 39 = .ok (.iload_n 2, 1) := by decide +kernel
theorem dX12_divide_40 : decode cX12_divide 40 = .ok (.i2l, 1) := by decide +kernel
theorem dX12_divide_41 : decode cX12_divide 41 = .ok (.ldiv, 1) := by decide +kernel
theorem dX12_divide_42 : decode cX12_divide 42 = .ok (.l2i, 1) := by decide +kernel
theorem dX12_divide_43 : decode cX12_divide 43 = .ok (.iastore, 1) := by decide +kernel
theorem dX12_divide_44 : decode cX12_divide 44 = .ok (.lload 6, 2) := by decide +kernel
theorem dX12_divide_46 : decode cX12_divide 46 = .ok (.iload_n 2, 1) := by decide +kernel
theorem dX12_divide_47 : decode cX12_divide 47 = .ok (.i2l, 1) := by decide +kernel
theorem dX12_divide_48 : decode cX12_divide 48 = .ok (.lrem, 1) := by decide +kernel
theorem dX12_divide_49 : decode cX12_divide 49 = .ok (.lstore_n 3, 1) := by decide +kernel
theorem dX12_divide_50 : decode cX12_divide 50 = .ok (.iinc 5 (-1), 3) := by decide +kernel
theorem dX12_divide_53 : decode cX12_divide 53 = .ok (.goto (-47), 3) := by decide +kernel
theorem dX12_divide_56 : decode cX12_divide 56 = .ok (.return_, 1) := by decide +kernel
theorem dX12_add_0 : decode cX12_add 0 = .ok (.iconst 0, 1) := by decide +kernel
theorem dX12_add_1 : decode cX12_add 1 = .ok (.istore_n 3, 1) := by decide +kernel
theorem dX12_add_2 : decode cX12_add 2 = .ok (.iconst 0, 1) := by decide +kernel
theorem dX12_add_3 : decode cX12_add 3 = .ok (.istore 4, 2) := by decide +kernel
theorem dX12_add_5 : decode cX12_add 5 = .ok (.iload 4, 2) := by decide +kernel
theorem dX12_add_7 : decode cX12_add 7 = .ok (.bipush 64, 2) := by decide +kernel
theorem dX12_add_9 : decode cX12_add 9 = .ok (.if_icmp .ge 53, 3) := by decide +kernel
theorem dX12_add_12 : decode cX12_add 12 = .ok (.aload_n 0, 1) := by decide +kernel
theorem dX12_add_13 : decode cX12_add 13 = .ok (.getfield 79, 3) := by decide +kernel
theorem dX12_add_16 : decode cX12_add 16 = .ok (.iload_n 1, 1) := by decide +kernel
theorem dX12_add_17 : decode cX12_add 17 = .ok (.iload 4, 2) := by decide +kernel
theorem dX12_add_19 : decode cX12_add 19 = .ok (.iadd, 1) := by decide +kernel
theorem dX12_add_20 : decode cX12_add 20 = .ok (.iaload, 1) := by decide +kernel
theorem dX12_add_21 : decode cX12_add 21 = .ok (.aload_n 0, 1) := by decide +kernel
theorem dX12_add_22 : decode cX12_add 22 = .ok (.getfield 79, 3) := by decide +kernel
theorem dX12_add_25 : decode cX12_add 25 = .ok (.iload_n 2, 1) := by decide +kernel
theorem dX12_add_26 : decode cX12_add 26 = .ok (.iload 4, 2) := by decide +kernel
theorem dX12_add_28 : decode cX12_add 28 = .ok (.iadd, 1) := by decide +kernel
theorem dX12_add_29 : decode cX12_add 29 = .ok (.iaload, 1) := by decide +kernel
theorem dX12_add_30 : decode cX12_add 30 = .ok (.iadd, 1) := by decide +kernel
theorem dX12_add_31 : decode cX12_add 31 = .ok (.iload_n 3, 1) := by decide +kernel
theorem dX12_add_32 : decode cX12_add 32 = .ok (.iadd, 1) := by decide +kernel
theorem dX12_add_33 : decode cX12_add 33 = .ok (.istore 5, 2) := by decide +kernel
theorem dX12_add_35 : decode cX12_add 35 = .ok (.aload_n 0, 1) := by decide +kernel
theorem dX12_add_36 : decode cX12_add 36 = .ok (.getfield 79, 3) := by decide +kernel
theorem dX12_add_39 : decode cX12_add 39 = .ok (.iload_n 1, 1) := by decide +kernel
theorem dX12_add_40 : decode cX12_add 40 = .ok (.iload 4, 2) := by decide +kernel
theorem dX12_add_42 : decode cX12_add 42 = .ok (.iadd, 1) := by decide +kernel
theorem dX12_add_43 : decode cX12_add 43 = .ok (.iload 5, 2) := by decide +kernel
theorem dX12_add_45 : decode cX12_add 45 = .ok (.ldc_w 289, 3) := by decide +kernel
theorem dX12_add_48 : decode cX12_add 48 = .ok (.iand, 1) := by decide +kernel
theorem dX12_add_49 : decode cX12_add 49 = .ok (.iastore, 1) := by decide +kernel
theorem dX12_add_50 : decode cX12_add 50 = .ok (.iload 5, 2) := by decide +kernel
theorem dX12_add_52 : decode cX12_add 52 = .ok (.bipush 16, 2) := by decide +kernel
theorem dX12_add_54 : decode cX12_add 54 = .ok (.ishr, 1) := by decide +kernel
theorem dX12_add_55 : decode cX12_add 55 = .ok (.istore_n 3, 1) := by decide +kernel
theorem dX12_add_56 : decode cX12_add 56 = .ok (.iinc 4 1, 3) := by decide +kernel
theorem dX12_add_59 : decode cX12_add 59 = .ok (.goto (-54), 3) := by decide +kernel
theorem dX12_add_62 : decode cX12_add 62 = .ok (.return_, 1) := by decide +kernel
theorem dX12_subtract_0 : decode cX12_subtract 0 = .ok (.iconst 0, 1) := by decide +kernel
theorem dX12_subtract_1 : decode cX12_subtract 1 = .ok (.istore_n 3, 1) := by decide +kernel
theorem dX12_subtract_2 : decode cX12_subtract 2 = .ok (.iconst 0, 1) := by decide +kernel
theorem dX12_subtract_3 : decode cX12_subtract 3 = .ok (.istore 4, 2) := by decide +kernel
theorem dX12_subtract_5 : decode cX12_subtract 5 = .ok (.iload 4, 2) := by decide +kernel
theorem dX12_subtract_7 : decode cX12_subtract 7 = .ok (.bipush 64, 2) := by decide +kernel
theorem dX12_subtract_9 : decode cX12_subtract 9 = .ok (.if_icmp .ge 58, 3) := by decide +kernel
theorem dX12_subtract_12 : decode cX12_subtract 12 = .ok (.aload_n 0, 1) := by decide +kernel
theorem dX12_subtract_13 : decode cX12_subtract 13 = .ok (.getfield 79, 3) := by decide +kernel
theorem dX12_subtract_16 : decode cX12_subtract 16 = .ok (.iload_n 1, 1) := by decide +kernel
theorem dX12_subtract_17 : decode cX12_subtract 17 = .ok (.iload 4, 2) := by decide +kernel
theorem dX12_subtract_19 : decode cX12_subtract 19 = .ok (.iadd, 1) := by decide +kernel
theorem dX12_subtract_20 : decode cX12_subtract 20 = .ok (.iaload, 1) := by decide +kernel
theorem dX12_subtract_21 : decode cX12_subtract 21 = .ok (.aload_n 0, 1) := by decide +kernel
theorem dX12_subtract_22 : decode cX12_subtract 22 = .ok (.getfield 79, 3) := by decide +kernel
theorem dX12_subtract_25 : decode cX12_subtract 25 = .ok (.iload_n 2, 1) := by decide +kernel
theorem dX12_subtract_26 : decode cX12_subtract 26 = .ok (.iload 4, 2) := by decide +kernel
theorem dX12_subtract_28 : decode cX12_subtract 28 = .ok (.iadd, 1) := by decide +kernel
theorem dX12_subtract_29 : decode cX12_subtract 29 = .ok (.iaload, 1) := by decide +kernel
theorem dX12_subtract_30 : decode cX12_subtract 30 = .ok (.isub, 1) := by decide +kernel
theorem dX12_subtract_31 : decode cX12_subtract 31 = .ok (.iload_n 3, 1) := by decide +kernel
theorem dX12_subtract_32 : decode cX12_subtract 32 = .ok (.isub, 1) := by decide +kernel
theorem dX12_subtract_33 : decode cX12_subtract 33 = .ok (.istore 5, 2) := by decide +kernel
theorem dX12_subtract_35 : decode cX12_subtract 35 = .ok (.aload_n 0, 1) := by decide +kernel
theorem dX12_subtract_36 : decode cX12_subtract 36 = .ok (.getfield 79, 3) := by decide +kernel
theorem dX12_subtract_39 : decode cX12_subtract 39 = .ok (.iload_n 1, 1) := by decide +kernel
theorem dX12_subtract_40 : decode cX12_subtract 40 = .ok (.iload 4, 2) := by decide +kernel
theorem dX12_subtract_42 : decode cX12_subtract 42 = .ok (.iadd, 1) := by decide +kernel
theorem dX12_subtract_43 : decode cX12_subtract 43 = .ok (.iload 5, 2) := by decide +kernel
theorem dX12_subtract_45 : decode cX12_subtract 45 = .ok (.ldc_w 289, 3) := by decide +kernel
theorem dX12_subtract_48 : decode cX12_subtract 48 = .ok (.iand, 1) := by decide +kernel
theorem dX12_subtract_49 : decode cX12_subtract 49 = .ok (.iastore, 1) := by decide +kernel
theorem dX12_subtract_50 : decode cX12_subtract 50 = .ok (.iload 5, 2) := by decide +kernel
theorem dX12_subtract_52 : decode cX12_subtract 52 = .ok (.ifCond .ge 7, 3) := by decide +kernel
theorem dX12_subtract_55 : decode cX12_subtract 55 = .ok (.iconst 1, 1) := by decide +kernel
theorem dX12_subtract_56 : decode cX12_subtract 56 = .ok (.goto 4, 3) := by decide +kernel
theorem dX12_subtract_59 : decode cX12_subtract 59 = .ok (.iconst 0, 1) := by decide +kernel
theorem dX12_subtract_60 : decode cX12_subtract 60 = .ok (.istore_n 3, 1) := by decide +kernel
theorem dX12_subtract_61 : decode cX12_subtract 61 = .ok (.iinc 4 1, 3) := by decide +kernel
theorem dX12_subtract_64 : decode cX12_subtract 64 = .ok (.goto (-59), 3) := by decide +kernel
theorem dX12_subtract_67 : decode cX12_subtract 67 = .ok (.return_, 1) := by decide +kernel
theorem dX12_isBelow_0 : decode cX12_isBelow 0 = .ok (.bipush 63, 2) := by decide +kernel
theorem dX12_isBelow_2 : decode cX12_isBelow 2 = .ok (.istore_n 3, 1) := by decide +kernel
theorem dX12_isBelow_3 : decode cX12_isBelow 3 = .ok (.iload_n 3, 1) := by decide +kernel
theorem dX12_isBelow_4 : decode cX12_isBelow 4 = .ok (.ifCond .le 28, 3) := by decide +kernel
theorem dX12_isBelow_7 : decode cX12_isBelow 7 = .ok (.aload_n 0, 1) := by decide +kernel
theorem dX12_isBelow_8 : decode cX12_isBelow 8 = .ok (.getfield 79, 3) := by decide +kernel
theorem dX12_isBelow_11 : decode cX12_isBelow 11 = .ok (.iload_n 1, 1) := by decide +kernel
theorem dX12_isBelow_12 : decode cX12_isBelow 12 = .ok (.iload_n 3, 1) := by decide +kernel
theorem dX12_isBelow_13 : decode cX12_isBelow 13 = .ok (.iadd, 1) := by decide +kernel
theorem dX12_isBelow_14 : decode cX12_isBelow 14 = .ok (.iaload, 1) := by decide +kernel
theorem dX12_isBelow_15 : decode cX12_isBelow 15 = .ok (.aload_n 0, 1) := by decide +kernel
theorem dX12_isBelow_16 : decode cX12_isBelow 16 = .ok (.getfield 79, 3) := by decide +kernel
theorem dX12_isBelow_19 : decode cX12_isBelow 19 = .ok (.iload_n 2, 1) := by decide +kernel
theorem dX12_isBelow_20 : decode cX12_isBelow 20 = .ok (.iload_n 3, 1) := by decide +kernel
theorem dX12_isBelow_21 : decode cX12_isBelow 21 = .ok (.iadd, 1) := by decide +kernel
theorem dX12_isBelow_22 : decode cX12_isBelow 22 = .ok (.iaload, 1) := by decide +kernel
theorem dX12_isBelow_23 : decode cX12_isBelow 23 = .ok (.if_icmp .ne 9, 3) := by decide +kernel
theorem dX12_isBelow_26 : decode cX12_isBelow 26 = .ok (.iinc 3 (-1), 3) := by decide +kernel
theorem dX12_isBelow_29 : decode cX12_isBelow 29 = .ok (.goto (-26), 3) := by decide +kernel
theorem dX12_isBelow_32 : decode cX12_isBelow 32 = .ok (.aload_n 0, 1) := by decide +kernel
theorem dX12_isBelow_33 : decode cX12_isBelow 33 = .ok (.getfield 79, 3) := by decide +kernel
theorem dX12_isBelow_36 : decode cX12_isBelow 36 = .ok (.iload_n 1, 1) := by decide +kernel
theorem dX12_isBelow_37 : decode cX12_isBelow 37 = .ok (.iload_n 3, 1) := by decide +kernel
theorem dX12_isBelow_38 : decode cX12_isBelow 38 = .ok (.iadd, 1) := by decide +kernel
theorem dX12_isBelow_39 : decode cX12_isBelow 39 = .ok (.iaload, 1) := by decide +kernel
theorem dX12_isBelow_40 : decode cX12_isBelow 40 = .ok (.aload_n 0, 1) := by decide +kernel
theorem dX12_isBelow_41 : decode cX12_isBelow 41 = .ok (.getfield 79, 3) := by decide +kernel
theorem dX12_isBelow_44 : decode cX12_isBelow 44 = .ok (.iload_n 2, 1) := by decide +kernel
theorem dX12_isBelow_45 : decode cX12_isBelow 45 = .ok (.iload_n 3, 1) := by decide +kernel
theorem dX12_isBelow_46 : decode cX12_isBelow 46 = .ok (.iadd, 1) := by decide +kernel
theorem dX12_isBelow_47 : decode cX12_isBelow 47 = .ok (.iaload, 1) := by decide +kernel
theorem dX12_isBelow_48 : decode cX12_isBelow 48 = .ok (.if_icmp .ge 7, 3) := by decide +kernel
theorem dX12_isBelow_51 : decode cX12_isBelow 51 = .ok (.iconst 1, 1) := by decide +kernel
theorem dX12_isBelow_52 : decode cX12_isBelow 52 = .ok (.goto 4, 3) := by decide +kernel
theorem dX12_isBelow_55 : decode cX12_isBelow 55 = .ok (.iconst 0, 1) := by decide +kernel
theorem dX12_isBelow_56 : decode cX12_isBelow 56 = .ok (.ireturn, 1) := by decide +kernel
theorem dX12_isNought_0 : decode cX12_isNought 0 = .ok (.iconst 1, 1) := by decide +kernel
theorem dX12_isNought_1 : decode cX12_isNought 1 = .ok (.istore_n 2, 1) := by decide +kernel
theorem dX12_isNought_2 : decode cX12_isNought 2 = .ok (.iconst 0, 1) := by decide +kernel
theorem dX12_isNought_3 : decode cX12_isNought 3 = .ok (.istore_n 3, 1) := by decide +kernel
theorem dX12_isNought_4 : decode cX12_isNought 4 = .ok (.iload_n 3, 1) := by decide +kernel
theorem dX12_isNought_5 : decode cX12_isNought 5 = .ok (.bipush 64, 2) := by decide +kernel
theorem dX12_isNought_7 : decode cX12_isNought 7 = .ok (.if_icmp .ge 30, 3) := by decide +kernel
theorem dX12_isNought_10 : decode cX12_isNought 10 = .ok (.iload_n 2, 1) := by decide +kernel
theorem dX12_isNought_11 : decode cX12_isNought 11 = .ok (.ifCond .eq 18, 3) := by decide +kernel
theorem dX12_isNought_14 : decode cX12_isNought 14 = .ok (.aload_n 0, 1) := by decide +kernel
theorem dX12_isNought_15 : decode cX12_isNought 15 = .ok (.getfield 79, 3) := by decide +kernel
theorem dX12_isNought_18 : decode cX12_isNought 18 = .ok (.iload_n 1, 1) := by decide +kernel
theorem dX12_isNought_19 : decode cX12_isNought 19 = .ok (.iload_n 3, 1) := by decide +kernel
theorem dX12_isNought_20 : decode cX12_isNought 20 = .ok (.iadd, 1) := by decide +kernel
theorem dX12_isNought_21 : decode cX12_isNought 21 = .ok (.iaload, 1) := by decide +kernel
theorem dX12_isNought_22 : decode cX12_isNought 22 = .ok (.ifCond .ne 7, 3) := by decide +kernel
theorem dX12_isNought_25 : decode cX12_isNought 25 = .ok (.iconst 1, 1) := by decide +kernel
theorem dX12_isNought_26 : decode cX12_isNought 26 = .ok (.goto 4, 3) := by decide +kernel
theorem dX12_isNought_29 : decode cX12_isNought 29 = .ok (.iconst 0, 1) := by decide +kernel
theorem dX12_isNought_30 : decode cX12_isNought 30 = .ok (.istore_n 2, 1) := by decide +kernel
theorem dX12_isNought_31 : decode cX12_isNought 31 = .ok (.iinc 3 1, 3) := by decide +kernel
theorem dX12_isNought_34 : decode cX12_isNought 34 = .ok (.goto (-30), 3) := by decide +kernel
theorem dX12_isNought_37 : decode cX12_isNought 37 = .ok (.iload_n 2, 1) := by decide +kernel
theorem dX12_isNought_38 : decode cX12_isNought 38 = .ok (.ireturn, 1) := by decide +kernel
theorem dX12_halve_0 : decode cX12_halve 0 = .ok (.iconst 0, 1) := by decide +kernel
theorem dX12_halve_1 : decode cX12_halve 1 = .ok (.istore_n 2, 1) := by decide +kernel
theorem dX12_halve_2 : decode cX12_halve 2 = .ok (.iload_n 2, 1) := by decide +kernel
theorem dX12_halve_3 : decode cX12_halve 3 = .ok (.bipush 64, 2) := by decide +kernel
theorem dX12_halve_5 : decode cX12_halve 5 = .ok (.if_icmp .ge 55, 3) := by decide +kernel
theorem dX12_halve_8 : decode cX12_halve 8 = .ok (.aload_n 0, 1) := by decide +kernel
theorem dX12_halve_9 : decode cX12_halve 9 = .ok (.getfield 79, 3) := by decide +kernel
theorem dX12_halve_12 : decode cX12_halve 12 = .ok (.iload_n 1, 1) := by decide +kernel
theorem dX12_halve_13 : decode cX12_halve 13 = .ok (.iload_n 2, 1) := by decide +kernel
theorem dX12_halve_14 : decode cX12_halve 14 = .ok (.iadd, 1) := by decide +kernel
theorem dX12_halve_15 : decode cX12_halve 15 = .ok (.aload_n 0, 1) := by decide +kernel
theorem dX12_halve_16 : decode cX12_halve 16 = .ok (.getfield 79, 3) := by decide +kernel
theorem dX12_halve_19 : decode cX12_halve 19 = .ok (.iload_n 1, 1) := by decide +kernel
theorem dX12_halve_20 : decode cX12_halve 20 = .ok (.iload_n 2, 1) := by decide +kernel
theorem dX12_halve_21 : decode cX12_halve 21 = .ok (.iadd, 1) := by decide +kernel
theorem dX12_halve_22 : decode cX12_halve 22 = .ok (.iaload, 1) := by decide +kernel
theorem dX12_halve_23 : decode cX12_halve 23 = .ok (.iconst 1, 1) := by decide +kernel
theorem dX12_halve_24 : decode cX12_halve 24 = .ok (.ishr, 1) := by decide +kernel
theorem dX12_halve_25 : decode cX12_halve 25 = .ok (.iload_n 2, 1) := by decide +kernel
theorem dX12_halve_26 : decode cX12_halve 26 = .ok (.iconst 1, 1) := by decide +kernel
theorem dX12_halve_27 : decode cX12_halve 27 = .ok (.iadd, 1) := by decide +kernel
theorem dX12_halve_28 : decode cX12_halve 28 = .ok (.bipush 64, 2) := by decide +kernel
theorem dX12_halve_30 : decode cX12_halve 30 = .ok (.if_icmp .ge 21, 3) := by decide +kernel
theorem dX12_halve_33 : decode cX12_halve 33 = .ok (.aload_n 0, 1) := by decide +kernel
theorem dX12_halve_34 : decode cX12_halve 34 = .ok (.getfield 79, 3) := by decide +kernel
theorem dX12_halve_37 : decode cX12_halve 37 = .ok (.iload_n 1, 1) := by decide +kernel
theorem dX12_halve_38 : decode cX12_halve 38 = .ok (.iload_n 2, 1) := by decide +kernel
theorem dX12_halve_39 : decode cX12_halve 39 = .ok (.iadd, 1) := by decide +kernel
theorem dX12_halve_40 : decode cX12_halve 40 = .ok (.iconst 1, 1) := by decide +kernel
theorem dX12_halve_41 : decode cX12_halve 41 = .ok (.iadd, 1) := by decide +kernel
theorem dX12_halve_42 : decode cX12_halve 42 = .ok (.iaload, 1) := by decide +kernel
theorem dX12_halve_43 : decode cX12_halve 43 = .ok (.iconst 1, 1) := by decide +kernel
theorem dX12_halve_44 : decode cX12_halve 44 = .ok (.iand, 1) := by decide +kernel
theorem dX12_halve_45 : decode cX12_halve 45 = .ok (.bipush 15, 2) := by decide +kernel
theorem dX12_halve_47 : decode cX12_halve 47 = .ok (.ishl, 1) := by decide +kernel
theorem dX12_halve_48 : decode cX12_halve 48 = .ok (.goto 4, 3) := by decide +kernel
theorem dX12_halve_51 : decode cX12_halve 51 = .ok (.iconst 0, 1) := by decide +kernel
theorem dX12_halve_52 : decode cX12_halve 52 = .ok (.ior, 1) := by decide +kernel
theorem dX12_halve_53 : decode cX12_halve 53 = .ok (.iastore, 1) := by decide +kernel
theorem dX12_halve_54 : decode cX12_halve 54 = .ok (.iinc 2 1, 3) := by decide +kernel
theorem dX12_halve_57 : decode cX12_halve 57 = .ok (.goto (-55), 3) := by decide +kernel
theorem dX12_halve_60 : decode cX12_halve 60 = .ok (.return_, 1) := by decide +kernel
theorem dX12_findCommon_0 : decode cX12_findCommon 0 = .ok (.aload_n 0, 1) := by decide +kernel
theorem dX12_findCommon_1 : decode cX12_findCommon 1 = .ok (.iconst 0, 1) := by decide +kernel
theorem dX12_findCommon_2 : decode cX12_findCommon 2 = .ok (.sipush 128, 3) := by decide +kernel
theorem dX12_findCommon_5 : decode cX12_findCommon 5 = .ok (.invokevirtual 290, 3) := by decide +kernel
theorem dX12_findCommon_8 : decode cX12_findCommon 8 = .ok (.aload_n 0, 1) := by decide +kernel
theorem dX12_findCommon_9 : decode cX12_findCommon 9 = .ok (.bipush 64, 2) := by decide +kernel
theorem dX12_findCommon_11 : decode cX12_findCommon 11 = .ok (.sipush 192, 3) := by decide +kernel
theorem dX12_findCommon_14 : decode cX12_findCommon 14 = .ok (.invokevirtual 290, 3) := by decide +kernel
theorem dX12_findCommon_17 : decode cX12_findCommon 17 = .ok (.iconst 0, 1) := by decide +kernel
theorem dX12_findCommon_18 : decode cX12_findCommon 18 = .ok (.istore_n 1, 1) := by decide +kernel
theorem dX12_findCommon_19 : decode cX12_findCommon 19 = .ok (.aload_n 0, 1) := by decide +kernel
theorem dX12_findCommon_20 : decode cX12_findCommon 20 = .ok (.getfield 79, 3) := by decide +kernel
theorem dX12_findCommon_23 : decode cX12_findCommon 23 = .ok (.sipush 128, 3) := by decide +kernel
theorem dX12_findCommon_26 : decode cX12_findCommon 26 = .ok (.iaload, 1) := by decide +kernel
theorem dX12_findCommon_27 : decode cX12_findCommon 27 = .ok (.iconst 1, 1) := by decide +kernel
theorem dX12_findCommon_28 : decode cX12_findCommon 28 = .ok (.iand, 1) := by decide +kernel
theorem dX12_findCommon_29 : decode cX12_findCommon 29 = .ok (.ifCond .ne 36, 3) := by decide +kernel
theorem dX12_findCommon_32 : decode cX12_findCommon 32 = .ok (.aload_n 0, 1) := by decide +kernel
theorem dX12_findCommon_33 : decode cX12_findCommon 33 = .ok (.getfield 79, 3) := by decide +kernel
theorem dX12_findCommon_36 : decode cX12_findCommon 36 = .ok (.sipush 192, 3) := by decide +kernel
theorem dX12_findCommon_39 : decode cX12_findCommon 39 = .ok (.iaload, 1) := by decide +kernel
theorem dX12_findCommon_40 : decode cX12_findCommon 40 = .ok (.iconst 1, 1) := by decide +kernel
theorem dX12_findCommon_41 : decode cX12_findCommon 41 = .ok (.iand, 1) := by decide +kernel
theorem dX12_findCommon_42 : decode cX12_findCommon 42 = .ok (.ifCond .ne 23, 3) := by decide +kernel
theorem dX12_findCommon_45 : decode cX12_findCommon 45 = .ok (.aload_n 0, 1) := by decide +kernel
theorem dX12_findCommon_46 : decode cX12_findCommon 46 = .ok (.sipush 128, 3) := by decide +kernel
theorem dX12_findCommon_49 : decode cX12_findCommon 49 = .ok (.invokevirtual 293, 3) := by decide +kernel
theorem dX12_findCommon_52 : decode cX12_findCommon 52 = .ok (.aload_n 0, 1) := by decide +kernel
theorem dX12_findCommon_53 : decode cX12_findCommon 53 = .ok (.sipush 192, 3) := by decide +kernel
theorem dX12_findCommon_56 : decode cX12_findCommon 56 = .ok (.invokevirtual 293, 3) := by decide +kernel
theorem dX12_findCommon_59 : decode cX12_findCommon 59 = .ok (.iinc 1 1, 3) := by decide +kernel
theorem dX12_findCommon_62 : decode cX12_findCommon 62 = .ok (.goto (-43), 3) := by decide +kernel
theorem dX12_findCommon_65 : decode cX12_findCommon 65 = .ok (.aload_n 0, 1) := by decide +kernel
theorem dX12_findCommon_66 : decode cX12_findCommon 66 = .ok (.sipush 192, 3) := by decide +kernel
theorem dX12_findCommon_69 : decode cX12_findCommon 69 = .ok (.invokevirtual 296, 3) := by decide +kernel
theorem dX12_findCommon_72 : decode cX12_findCommon 72 = .ok (.ifCond .ne 105, 3) := by decide +kernel
theorem dX12_findCommon_75 : decode cX12_findCommon 75 = .ok (.aload_n 0, 1) := by decide +kernel
theorem dX12_findCommon_76 : decode cX12_findCommon 76 = .ok (.getfield 79, 3) := by decide +kernel
theorem dX12_findCommon_79 : decode cX12_findCommon 79 = .ok (.sipush 128, 3) := by decide +kernel
theorem dX12_findCommon_82 : decode cX12_findCommon 82 = .ok (.iaload, 1) := by decide +kernel
theorem dX12_findCommon_83 : decode cX12_findCommon 83 = .ok (.iconst 1, 1) := by decide +kernel
theorem dX12_findCommon_84 : decode cX12_findCommon 84 = .ok (.iand, 1) := by decide +kernel
theorem dX12_findCommon_85 : decode cX12_findCommon 85 = .ok (.ifCond .ne 13, 3) := by decide +kernel
theorem dX12_findCommon_88 : decode cX12_findCommon 88 = .ok (.aload_n 0, 1) := by decide +kernel
theorem dX12_findCommon_89 : decode cX12_findCommon 89 = .ok (.sipush 128, 3) := by decide +kernel
theorem dX12_findCommon_92 : decode cX12_findCommon 92 = .ok (.invokevirtual 293, 3) := by decide +kernel
theorem dX12_findCommon_95 : decode cX12_findCommon 95 = .ok (.goto (-20), 3) := by decide +kernel
theorem dX12_findCommon_98 : decode cX12_findCommon 98 = .ok (.aload_n 0, 1) := by decide +kernel
theorem dX12_findCommon_99 : decode cX12_findCommon 99 = .ok (.getfield 79, 3) := by decide +kernel
theorem dX12_findCommon_102 : decode cX12_findCommon 102 = .ok (.sipush 192, 3) := by decide +kernel
theorem dX12_findCommon_105 : decode cX12_findCommon 105 = .ok (.iaload, 1) := by decide +kernel
theorem dX12_findCommon_106 : decode cX12_findCommon 106 = .ok (.iconst 1, 1) := by decide +kernel
theorem dX12_findCommon_107 : decode cX12_findCommon 107 = .ok (.iand, 1) := by decide +kernel
theorem dX12_findCommon_108 : decode cX12_findCommon 108 = .ok (.ifCond .ne 13, 3) := by decide +kernel
theorem dX12_findCommon_111 : decode cX12_findCommon 111 = .ok (.aload_n 0, 1) := by decide +kernel
theorem dX12_findCommon_112 : decode cX12_findCommon 112 = .ok (.sipush 192, 3) := by decide +kernel
theorem dX12_findCommon_115 : decode cX12_findCommon 115 = .ok (.invokevirtual 293, 3) := by decide +kernel
theorem dX12_findCommon_118 : decode cX12_findCommon 118 = .ok (.goto (-20), 3) := by decide +kernel
theorem dX12_findCommon_121 : decode cX12_findCommon 121 = .ok (.aload_n 0, 1) := by decide +kernel
theorem dX12_findCommon_122 : decode cX12_findCommon 122 = .ok (.sipush 192, 3) := by decide +kernel
theorem dX12_findCommon_125 : decode cX12_findCommon 125 = .ok (.sipush 128, 3) := by decide +kernel
theorem dX12_findCommon_128 : decode cX12_findCommon 128 = .ok (.invokevirtual 299, 3) := by decide +kernel
theorem dX12_findCommon_131 : decode cX12_findCommon 131 = .ok (.ifCond .eq 33, 3) := by decide +kernel
theorem dX12_findCommon_134 : decode cX12_findCommon 134 = .ok (.aload_n 0, 1) := by decide +kernel
theorem dX12_findCommon_135 : decode cX12_findCommon 135 = .ok (.sipush 128, 3) := by decide +kernel
theorem dX12_findCommon_138 : decode cX12_findCommon 138 = .ok (.sipush 256, 3) := by decide +kernel
theorem dX12_findCommon_141 : decode cX12_findCommon 141 = .ok (.invokevirtual 290, 3) := by decide +kernel
theorem dX12_findCommon_144 : decode cX12_findCommon 144 = .ok (.aload_n 0, 1) := by decide +kernel
theorem dX12_findCommon_145 : decode cX12_findCommon 145 = .ok (.sipush 192, 3) := by decide +kernel
theorem dX12_findCommon_148 : decode cX12_findCommon 148 = .ok (.sipush 128, 3) := by decide +kernel
theorem dX12_findCommon_151 : decode cX12_findCommon 151 = .ok (.invokevirtual 290, 3) := by decide +kernel
theorem dX12_findCommon_154 : decode cX12_findCommon 154 = .ok (.aload_n 0, 1) := by decide +kernel
theorem dX12_findCommon_155 : decode cX12_findCommon 155 = .ok (.sipush 256, 3) := by decide +kernel
theorem dX12_findCommon_158 : decode cX12_findCommon 158 = .ok (.sipush 192, 3) := by decide +kernel
theorem dX12_findCommon_161 : decode cX12_findCommon 161 = .ok (.invokevirtual 290, 3) := by decide +kernel
theorem dX12_findCommon_164 : decode cX12_findCommon 164 = .ok (.aload_n 0, 1) := by decide +kernel
theorem dX12_findCommon_165 : decode cX12_findCommon 165 = .ok (.sipush 192, 3) := by decide +kernel
theorem dX12_findCommon_168 : decode cX12_findCommon 168 = .ok (.sipush 128, 3) := by decide +kernel
theorem dX12_findCommon_171 : decode cX12_findCommon 171 = .ok (.invokevirtual 302, 3) := by decide +kernel
theorem dX12_findCommon_174 : decode cX12_findCommon 174 = .ok (.goto (-109), 3) := by decide +kernel
theorem dX12_findCommon_177 : decode cX12_findCommon 177 = .ok (.iconst 0, 1) := by decide +kernel
theorem dX12_findCommon_178 : decode cX12_findCommon 178 = .ok (.istore_n 2, 1) := by decide +kernel
theorem dX12_findCommon_179 : decode cX12_findCommon 179 = .ok (.iload_n 2, 1) := by decide +kernel
theorem dX12_findCommon_180 : decode cX12_findCommon 180 = .ok (.iload_n 1, 1) := by decide +kernel
theorem dX12_findCommon_181 : decode cX12_findCommon 181 = .ok (.if_icmp .ge 19, 3) := by decide +kernel
theorem dX12_findCommon_184 : decode cX12_findCommon 184 = .ok (.aload_n 0, 1) := by decide +kernel
theorem dX12_findCommon_185 : decode cX12_findCommon 185 = .ok (.sipush 128, 3) := by decide +kernel
theorem dX12_findCommon_188 : decode cX12_findCommon 188 = .ok (.ldc2_w 305, 3) := by decide +kernel
theorem dX12_findCommon_191 : decode cX12_findCommon 191 = .ok (.invokevirtual 307, 3) := by decide +kernel
theorem dX12_findCommon_194 : decode cX12_findCommon 194 = .ok (.iinc 2 1, 3) := by decide +kernel
theorem dX12_findCommon_197 : decode cX12_findCommon 197 = .ok (.goto (-18), 3) := by decide +kernel
theorem dX12_findCommon_200 : decode cX12_findCommon 200 = .ok (.return_, 1) := by decide +kernel
theorem dX12_lessen_0 : decode cX12_lessen 0 = .ok (.aload_n 0, 1) := by decide +kernel
theorem dX12_lessen_1 : decode cX12_lessen 1 = .ok (.sipush 256, 3) := by decide +kernel
theorem dX12_lessen_4 : decode cX12_lessen 4 = .ok (.iconst 0, 1) := by decide +kernel
theorem dX12_lessen_5 : decode cX12_lessen 5 = .ok (.invokevirtual 311, 3) := by decide +kernel
theorem dX12_lessen_8 : decode cX12_lessen 8 = .ok (.sipush 1023, 3) := by decide +kernel
theorem dX12_lessen_11 : decode cX12_lessen 11 = .ok (.istore_n 2, 1) := by decide +kernel
theorem dX12_lessen_12 : decode cX12_lessen 12 = .ok (.iload_n 2, 1) := by decide +kernel
theorem dX12_lessen_13 : decode cX12_lessen 13 = .ok (.ifCond .lt 133, 3) := by decide +kernel
theorem dX12_lessen_16 : decode cX12_lessen 16 = .ok (.aload_n 0, 1) := by decide +kernel
theorem dX12_lessen_17 : decode cX12_lessen 17 = .ok (.sipush 256, 3) := by decide +kernel
theorem dX12_lessen_20 : decode cX12_lessen 20 = .ok (.ldc2_w 305, 3) := by decide +kernel
theorem dX12_lessen_23 : decode cX12_lessen 23 = .ok (.invokevirtual 307, 3) := by decide +kernel
theorem dX12_lessen_26 : decode cX12_lessen 26 = .ok (.aload_n 0, 1) := by decide +kernel
theorem dX12_lessen_27 : decode cX12_lessen 27 = .ok (.getfield 79, 3) := by decide +kernel
theorem dX12_lessen_30 : decode cX12_lessen 30 = .ok (.sipush 256, 3) := by decide +kernel
theorem dX12_lessen_33 : decode cX12_lessen 33 = .ok (.aload_n 0, 1) := by decide +kernel
theorem dX12_lessen_34 : decode cX12_lessen 34 = .ok (.getfield 79, 3) := by decide +kernel
theorem dX12_lessen_37 : decode cX12_lessen 37 = .ok (.sipush 256, 3) := by decide +kernel
theorem dX12_lessen_40 : decode cX12_lessen 40 = .ok (.iaload, 1) := by decide +kernel
theorem dX12_lessen_41 : decode cX12_lessen 41 = .ok (.aload_n 0, 1) := by decide +kernel
theorem dX12_lessen_42 : decode cX12_lessen 42 = .ok (.getfield 79, 3) := by decide +kernel
theorem dX12_lessen_45 : decode cX12_lessen 45 = .ok (.iload_n 1, 1) := by decide +kernel
theorem dX12_lessen_46 : decode cX12_lessen 46 = .ok (.iload_n 2, 1) := by decide +kernel
theorem dX12_lessen_47 : decode cX12_lessen 47 = .ok (.bipush 16, 2) := by decide +kernel
theorem dX12_lessen_49 : decode cX12_lessen 49 = .ok (.idiv, 1) := by decide +kernel
theorem dX12_lessen_50 : decode cX12_lessen 50 = .ok (.iadd, 1) := by decide +kernel
theorem dX12_lessen_51 : decode cX12_lessen 51 = .ok (.iaload, 1) := by decide +kernel
theorem dX12_lessen_52 : decode cX12_lessen 52 = .ok (.iload_n 2, 1) := by decide +kernel
theorem dX12_lessen_53 : decode cX12_lessen 53 = .ok (.bipush 16, 2) := by decide +kernel
theorem dX12_lessen_55 : decode cX12_lessen 55 = .ok (.irem, 1) := by decide +kernel
theorem dX12_lessen_56 : decode cX12_lessen 56 = .ok (.ishr, 1) := by decide +kernel
theorem dX12_lessen_57 : decode cX12_lessen 57 = .ok (.iconst 1, 1) := by decide +kernel
theorem dX12_lessen_58 : decode cX12_lessen 58 = .ok (.iand, 1) := by decide +kernel
theorem dX12_lessen_59 : decode cX12_lessen 59 = .ok (.ior, 1) := by decide +kernel
theorem dX12_lessen_60 : decode cX12_lessen 60 = .ok (.iastore, 1) := by decide +kernel
theorem dX12_lessen_61 : decode cX12_lessen 61 = .ok (.aload_n 0, 1) := by decide +kernel
theorem dX12_lessen_62 : decode cX12_lessen 62 = .ok (.sipush 256, 3) := by decide +kernel
theorem dX12_lessen_65 : decode cX12_lessen 65 = .ok (.sipush 128, 3) := by decide +kernel
theorem dX12_lessen_68 : decode cX12_lessen 68 = .ok (.invokevirtual 299, 3) := by decide +kernel
theorem dX12_lessen_71 : decode cX12_lessen 71 = .ok (.ifCond .ne 7, 3) := by decide +kernel
theorem dX12_lessen_74 : decode cX12_lessen 74 = .ok (.iconst 1, 1) := by decide +kernel
theorem dX12_lessen_75 : decode cX12_lessen 75 = .ok (.goto 4, 3) := by decide +kernel
theorem dX12_lessen_78 : decode cX12_lessen 78 = .ok (.iconst 0, 1) := by decide +kernel
theorem dX12_lessen_79 : decode cX12_lessen 79 = .ok (.istore_n 3, 1) := by decide +kernel
theorem dX12_lessen_80 : decode cX12_lessen 80 = .ok (.iload_n 3, 1) := by decide +kernel
theorem dX12_lessen_81 : decode cX12_lessen 81 = .ok (.ifCond .eq 13, 3) := by decide +kernel
theorem dX12_lessen_84 : decode cX12_lessen 84 = .ok (.aload_n 0, 1) := by decide +kernel
theorem dX12_lessen_85 : decode cX12_lessen 85 = .ok (.sipush 256, 3) := by decide +kernel
theorem dX12_lessen_88 : decode cX12_lessen 88 = .ok (.sipush 128, 3) := by decide +kernel
theorem dX12_lessen_91 : decode cX12_lessen 91 = .ok (.invokevirtual 302, 3) := by decide +kernel
theorem dX12_lessen_94 : decode cX12_lessen 94 = .ok (.aload_n 0, 1) := by decide +kernel
theorem dX12_lessen_95 : decode cX12_lessen 95 = .ok (.getfield 79, 3) := by decide +kernel
theorem dX12_lessen_98 : decode cX12_lessen 98 = .ok (.iload_n 1, 1) := by decide +kernel
theorem dX12_lessen_99 : decode cX12_lessen 99 = .ok (.iload_n 2, 1) := by decide +kernel
theorem dX12_lessen_100 : decode cX12_lessen 100 = .ok (.bipush 16, 2) := by decide +kernel
theorem dX12_lessen_102 : decode cX12_lessen 102 = .ok (.idiv, 1) := by decide +kernel
theorem dX12_lessen_103 : decode cX12_lessen 103 = .ok (.iadd, 1) := by decide +kernel
theorem dX12_lessen_104 : decode cX12_lessen 104 = .ok (.aload_n 0, 1) := by decide +kernel
theorem dX12_lessen_105 : decode cX12_lessen 105 = .ok (.getfield 79, 3) := by decide +kernel
theorem dX12_lessen_108 : decode cX12_lessen 108 = .ok (.iload_n 1, 1) := by decide +kernel
theorem dX12_lessen_109 : decode cX12_lessen 109 = .ok (.iload_n 2, 1) := by decide +kernel
theorem dX12_lessen_110 : decode cX12_lessen 110 = .ok (.bipush 16, 2) := by decide +kernel
theorem dX12_lessen_112 : decode cX12_lessen 112 = .ok (.idiv, 1) := by decide +kernel
theorem dX12_lessen_113 : decode cX12_lessen 113 = .ok (.iadd, 1) := by decide +kernel
theorem dX12_lessen_114 : decode cX12_lessen 114 = .ok (.iaload, 1) := by decide +kernel
theorem dX12_lessen_115 : decode cX12_lessen 115 = .ok (.iconst 1, 1) := by decide +kernel
theorem dX12_lessen_116 : decode cX12_lessen 116 = .ok (.iload_n 2, 1) := by decide +kernel
theorem dX12_lessen_117 : decode cX12_lessen 117 = .ok (.bipush 16, 2) := by decide +kernel
theorem dX12_lessen_119 : decode cX12_lessen 119 = .ok (.irem, 1) := by decide +kernel
theorem dX12_lessen_120 : decode cX12_lessen 120 = .ok (.ishl, 1) := by decide +kernel
theorem dX12_lessen_121 : decode cX12_lessen 121 = .ok (.iconst (-1), 1) := by decide +kernel
theorem dX12_lessen_122 : decode cX12_lessen 122 = .ok (.ixor, 1) := by decide +kernel
theorem dX12_lessen_123 : decode cX12_lessen 123 = .ok (.iand, 1) := by decide +kernel
theorem dX12_lessen_124 : decode cX12_lessen 124 = .ok (.iload_n 3, 1) := by decide +kernel
theorem dX12_lessen_125 : decode cX12_lessen 125 = .ok (.ifCond .eq 12, 3) := by decide +kernel
theorem dX12_lessen_128 : decode cX12_lessen 128 = .ok (.iconst 1, 1) := by decide +kernel
theorem dX12_lessen_129 : decode cX12_lessen 129 = .ok (.iload_n 2, 1) := by decide +kernel
theorem dX12_lessen_130 : decode cX12_lessen 130 = .ok (.bipush 16, 2) := by decide +kernel
theorem dX12_lessen_132 : decode cX12_lessen 132 = .ok (.irem, 1) := by decide +kernel
theorem dX12_lessen_133 : decode cX12_lessen 133 = .ok (.ishl, 1) := by decide +kernel
theorem dX12_lessen_134 : decode cX12_lessen 134 = .ok (.goto 4, 3) := by decide +kernel
theorem dX12_lessen_137 : decode cX12_lessen 137 = .ok (.iconst 0, 1) := by decide +kernel
theorem dX12_lessen_138 : decode cX12_lessen 138 = .ok (.ior, 1) := by decide +kernel
theorem dX12_lessen_139 : decode cX12_lessen 139 = .ok (.iastore, 1) := by decide +kernel
theorem dX12_lessen_140 : decode cX12_lessen 140 = .ok (.iinc 2 (-1), 3) := by decide +kernel
theorem dX12_lessen_143 : decode cX12_lessen 143 = .ok (.goto (-131), 3) := by decide +kernel
theorem dX12_lessen_146 : decode cX12_lessen 146 = .ok (.return_, 1) := by decide +kernel
theorem dX12_counts_0 : decode cX12_counts 0 = .ok (.aload_n 0, 1) := by decide +kernel
theorem dX12_counts_1 : decode cX12_counts 1 = .ok (.getfield 66, 3) := by decide +kernel
theorem dX12_counts_4 : decode cX12_counts 4 = .ok (.iload_n 1, 1) := by decide +kernel
theorem dX12_counts_5 : decode cX12_counts 5 = .ok (.baload, 1) := by decide +kernel
theorem dX12_counts_6 : decode cX12_counts 6 = .ok (.ifCond .ne 17, 3) := by decide +kernel
theorem dX12_counts_9 : decode cX12_counts 9 = .ok (.aload_n 0, 1) := by decide +kernel
theorem dX12_counts_10 : decode cX12_counts 10 = .ok (.getfield 60, 3) := by decide +kernel
theorem dX12_counts_13 : decode cX12_counts 13 = .ok (.iload_n 1, 1) := by decide +kernel
theorem dX12_counts_14 : decode cX12_counts 14 = .ok (.iaload, 1) := by decide +kernel
theorem dX12_counts_15 : decode cX12_counts 15 = .ok (.iconst 1, 1) := by decide +kernel
theorem dX12_counts_16 : decode cX12_counts 16 = .ok (.if_icmp .le 7, 3) := by decide +kernel
theorem dX12_counts_19 : decode cX12_counts 19 = .ok (.iconst 1, 1) := by decide +kernel
theorem dX12_counts_20 : decode cX12_counts 20 = .ok (.goto 4, 3) := by decide +kernel
theorem dX12_counts_23 : decode cX12_counts 23 = .ok (.iconst 0, 1) := by decide +kernel
theorem dX12_counts_24 : decode cX12_counts 24 = .ok (.ireturn, 1) := by decide +kernel
theorem dX12_findR_0 : decode cX12_findR 0 = .ok (.lconst 0, 1) := by decide +kernel
theorem dX12_findR_1 : decode cX12_findR 1 = .ok (.lstore_n 1, 1) := by decide +kernel
theorem dX12_findR_2 : decode cX12_findR 2 = .ok (.iconst 0, 1) := by decide +kernel
theorem dX12_findR_3 : decode cX12_findR 3 = .ok (.istore_n 3, 1) := by decide +kernel
theorem dX12_findR_4 : decode cX12_findR 4 = .ok (.iload_n 3, 1) := by decide +kernel
theorem dX12_findR_5 : decode cX12_findR 5 = .ok (.aload_n 0, 1) := by decide +kernel
theorem dX12_findR_6 : decode cX12_findR 6 = .ok (.getfield 195, 3) := by decide +kernel
theorem dX12_findR_9 : decode cX12_findR 9 = .ok (.if_icmp .ge 30, 3) := by decide +kernel
theorem dX12_findR_12 : decode cX12_findR 12 = .ok (.aload_n 0, 1) := by decide +kernel
theorem dX12_findR_13 : decode cX12_findR 13 = .ok (.iload_n 3, 1) := by decide +kernel
theorem dX12_findR_14 : decode cX12_findR 14 = .ok (.invokevirtual 314, 3) := by decide +kernel
theorem dX12_findR_17 : decode cX12_findR 17 = .ok (.ifCond .eq 14, 3) := by decide +kernel
theorem dX12_findR_20 : decode cX12_findR 20 = .ok (.lload_n 1, 1) := by decide +kernel
theorem dX12_findR_21 : decode cX12_findR 21 = .ok (.aload_n 0, 1) := by decide +kernel
theorem dX12_findR_22 : decode cX12_findR 22 = .ok (.getfield 70, 3) := by decide +kernel
theorem dX12_findR_25 : decode cX12_findR 25 = .ok (.iload_n 3, 1) := by decide +kernel
theorem dX12_findR_26 : decode cX12_findR 26 = .ok (.laload, 1) := by decide +kernel
theorem dX12_findR_27 : decode cX12_findR 27 = .ok (.ladd, 1) := by decide +kernel
theorem dX12_findR_28 : decode cX12_findR 28 = .ok (.goto 4, 3) := by decide +kernel
theorem dX12_findR_31 : decode cX12_findR 31 = .ok (.lload_n 1, 1) := by decide +kernel
theorem dX12_findR_32 : decode cX12_findR 32 = .ok (.lstore_n 1, 1) := by decide +kernel
theorem dX12_findR_33 : decode cX12_findR 33 = .ok (.iinc 3 1, 3) := by decide +kernel
theorem dX12_findR_36 : decode cX12_findR 36 = .ok (.goto (-32), 3) := by decide +kernel
theorem dX12_findR_39 : decode cX12_findR 39 = .ok (.lload_n 1, 1) := by decide +kernel
theorem dX12_findR_40 : decode cX12_findR 40 = .ok (.lconst 0, 1) := by decide +kernel
theorem dX12_findR_41 : decode cX12_findR 41 = .ok (.lcmp, 1) := by decide +kernel
theorem dX12_findR_42 : decode cX12_findR 42 = .ok (.ifCond .gt 5, 3) := by decide +kernel
theorem dX12_findR_45 : decode cX12_findR 45 = .ok (.iconst 0, 1) := by decide +kernel
theorem dX12_findR_46 : decode cX12_findR 46 = .ok (.ireturn, 1) := by decide +kernel
theorem dX12_findR_47 : decode cX12_findR 47 = .ok (.aload_n 0, 1) := by decide +kernel
theorem dX12_findR_48 : decode cX12_findR 48 = .ok (.bipush 64, 2) := by decide +kernel
theorem dX12_findR_50 : decode cX12_findR 50 = .ok (.iconst 1, 1) := by decide +kernel
theorem dX12_findR_51 : decode cX12_findR 51 = .ok (.invokevirtual 311, 3) := by decide +kernel
theorem dX12_findR_54 : decode cX12_findR 54 = .ok (.iconst 0, 1) := by decide +kernel
theorem dX12_findR_55 : decode cX12_findR 55 = .ok (.istore_n 3, 1) := by decide +kernel
theorem dX12_findR_56 : decode cX12_findR 56 = .ok (.iconst 0, 1) := by decide +kernel
theorem dX12_findR_57 : decode cX12_findR 57 = .ok (.istore 4, 2) := by decide +kernel
theorem dX12_findR_59 : decode cX12_findR 59 = .ok (.iload 4, 2) := by decide +kernel
theorem dX12_findR_61 : decode cX12_findR 61 = .ok (.aload_n 0, 1) := by decide +kernel
theorem dX12_findR_62 : decode cX12_findR 62 = .ok (.getfield 195, 3) := by decide +kernel
theorem dX12_findR_65 : decode cX12_findR 65 = .ok (.if_icmp .ge 41, 3) := by decide +kernel
theorem dX12_findR_68 : decode cX12_findR 68 = .ok (.aload_n 0, 1) := by decide +kernel
theorem dX12_findR_69 : decode cX12_findR 69 = .ok (.iload 4, 2) := by decide +kernel
theorem dX12_findR_71 : decode cX12_findR 71 = .ok (.invokevirtual 314, 3) := by decide +kernel
theorem dX12_findR_74 : decode cX12_findR 74 = .ok (.ifCond .eq 24, 3) := by decide +kernel
theorem dX12_findR_77 : decode cX12_findR 77 = .ok (.aload_n 0, 1) := by decide +kernel
theorem dX12_findR_78 : decode cX12_findR 78 = .ok (.getfield 60, 3) := by decide +kernel
theorem dX12_findR_81 : decode cX12_findR 81 = .ok (.iload 4, 2) := by decide +kernel
theorem dX12_findR_83 : decode cX12_findR 83 = .ok (.iaload, 1) := by decide +kernel
theorem dX12_findR_84 : decode cX12_findR 84 = .ok (.iload_n 3, 1) := by decide +kernel
theorem dX12_findR_85 : decode cX12_findR 85 = .ok (.if_icmp .le 13, 3) := by decide +kernel
theorem dX12_findR_88 : decode cX12_findR 88 = .ok (.aload_n 0, 1) := by decide +kernel
theorem dX12_findR_89 : decode cX12_findR 89 = .ok (.getfield 60, 3) := by decide +kernel
theorem dX12_findR_92 : decode cX12_findR 92 = .ok (.iload 4, 2) := by decide +kernel
theorem dX12_findR_94 : decode cX12_findR 94 = .ok (.iaload, 1) := by decide +kernel
theorem dX12_findR_95 : decode cX12_findR 95 = .ok (.goto 4, 3) := by decide +kernel
theorem dX12_findR_98 : decode cX12_findR 98 = .ok (.iload_n 3, 1) := by decide +kernel
theorem dX12_findR_99 : decode cX12_findR 99 = .ok (.istore_n 3, 1) := by decide +kernel
theorem dX12_findR_100 : decode cX12_findR 100 = .ok (.iinc 4 1, 3) := by decide +kernel
theorem dX12_findR_103 : decode cX12_findR 103 = .ok (.goto (-44), 3) := by decide +kernel
theorem dX12_findR_106 : decode cX12_findR 106 = .ok (.iconst 2, 1) := by decide +kernel
theorem dX12_findR_107 : decode cX12_findR 107 = .ok (.istore 4, 2) := by decide +kernel
theorem dX12_findR_109 : decode cX12_findR 109 = .ok (.iload 4, 2) := by decide +kernel
theorem dX12_findR_111 : decode cX12_findR 111 = .ok (.iload_n 3, 1) := by decide +kernel
theorem dX12_findR_112 : decode cX12_findR 112 = .ok (.if_icmp .gt 105, 3) := by decide +kernel
theorem dX12_findR_115 : decode cX12_findR 115 = .ok (.iconst 1, 1) := by decide +kernel
theorem dX12_findR_116 : decode cX12_findR 116 = .ok (.istore 5, 2) := by decide +kernel
theorem dX12_findR_118 : decode cX12_findR 118 = .ok (.iload 4, 2) := by decide +kernel
theorem dX12_findR_120 : decode cX12_findR 120 = .ok (.invokestatic 317, 3) := by decide +kernel
theorem dX12_findR_123 : decode cX12_findR 123 = .ok (.istore 6, 2) := by decide +kernel
theorem dX12_findR_125 : decode cX12_findR 125 = .ok (.iconst 0, 1) := by decide +kernel
theorem dX12_findR_126 : decode cX12_findR 126 = .ok (.istore 7, 2) := by decide +kernel
theorem dX12_findR_128 : decode cX12_findR 128 = .ok (.iload 7, 2) := by decide +kernel
theorem dX12_findR_130 : decode cX12_findR 130 = .ok (.aload_n 0, 1) := by decide +kernel
theorem dX12_findR_131 : decode cX12_findR 131 = .ok (.getfield 195, 3) := by decide +kernel
theorem dX12_findR_134 : decode cX12_findR 134 = .ok (.if_icmp .ge 68, 3) := by decide +kernel
theorem dX12_findR_137 : decode cX12_findR 137 = .ok (.iload 6, 2) := by decide +kernel
theorem dX12_findR_139 : decode cX12_findR 139 = .ok (.ifCond .eq 63, 3) := by decide +kernel
theorem dX12_findR_142 : decode cX12_findR 142 = .ok (.iconst 1, 1) := by decide +kernel
theorem dX12_findR_143 : decode cX12_findR 143 = .ok (.istore 8, 2) := by decide +kernel
theorem dX12_findR_145 : decode cX12_findR 145 = .ok (.aload_n 0, 1) := by decide +kernel
theorem dX12_findR_146 : decode cX12_findR 146 = .ok (.iload 7, 2) := by decide +kernel
theorem dX12_findR_148 : decode cX12_findR 148 = .ok (.invokevirtual 314, 3) := by decide +kernel
theorem dX12_findR_151 : decode cX12_findR 151 = .ok (.ifCond .eq 29, 3) := by decide +kernel
theorem dX12_findR_154 : decode cX12_findR 154 = .ok (.aload_n 0, 1) := by decide +kernel
theorem dX12_findR_155 : decode cX12_findR 155 = .ok (.getfield 60, 3) := by decide +kernel
theorem dX12_findR_158 : decode cX12_findR 158 = .ok (.iload 7, 2) := by decide +kernel
theorem dX12_findR_160 : decode cX12_findR 160 = .ok (.iaload, 1) := by decide +kernel
theorem dX12_findR_161 : decode cX12_findR 161 = .ok (.iload 8, 2) := by decide +kernel
theorem dX12_findR_163 : decode cX12_findR 163 = .ok (.iload 4, 2) := by decide +kernel
theorem dX12_findR_165 : decode cX12_findR 165 = .ok (.imul, 1) := by decide +kernel
theorem dX12_findR_166 : decode cX12_findR 166 = .ok (.irem, 1) := by decide +kernel
theorem dX12_findR_167 : decode cX12_findR 167 = .ok (.ifCond .ne 13, 3) := by decide +kernel
theorem dX12_findR_170 : decode cX12_findR 170 = .ok (.iload 8, 2) := by decide +kernel
theorem dX12_findR_172 : decode cX12_findR 172 = .ok (.iload 4, 2) := by decide +kernel
theorem dX12_findR_174 : decode cX12_findR 174 = .ok (.imul, 1) := by decide +kernel
theorem dX12_findR_175 : decode cX12_findR 175 = .ok (.istore 8, 2) := by decide +kernel
theorem dX12_findR_177 : decode cX12_findR 177 = .ok (.goto (-32), 3) := by decide +kernel
theorem dX12_findR_180 : decode cX12_findR 180 = .ok (.iload 8, 2) := by decide +kernel
theorem dX12_findR_182 : decode cX12_findR 182 = .ok (.iload 5, 2) := by decide +kernel
theorem dX12_findR_184 : decode cX12_findR 184 = .ok (.if_icmp .le 8, 3) := by decide +kernel
theorem dX12_findR_187 : decode cX12_findR 187 = .ok (.iload 8, 2) := by decide +kernel
theorem dX12_findR_189 : decode cX12_findR 189 = .ok (.goto 5, 3) := by decide +kernel
theorem dX12_findR_192 : decode cX12_findR 192 = .ok (.iload 5, 2) := by decide +kernel
theorem dX12_findR_194 : decode cX12_findR 194 = .ok (.istore 5, 2) := by decide +kernel
theorem dX12_findR_196 : decode cX12_findR 196 = .ok (.iinc 7 1, 3) := by decide +kernel
theorem dX12_findR_199 : decode cX12_findR 199 = .ok (.goto (-71), 3) := by decide +kernel
theorem dX12_findR_202 : decode cX12_findR 202 = .ok (.aload_n 0, 1) := by decide +kernel
theorem dX12_findR_203 : decode cX12_findR 203 = .ok (.bipush 64, 2) := by decide +kernel
theorem dX12_findR_205 : decode cX12_findR 205 = .ok (.iload 5, 2) := by decide +kernel
theorem dX12_findR_207 : decode cX12_findR 207 = .ok (.i2l, 1) := by decide +kernel
theorem dX12_findR_208 : decode cX12_findR 208 = .ok (.invokevirtual 307, 3) := by decide +kernel
theorem dX12_findR_211 : decode cX12_findR 211 = .ok (.iinc 4 1, 3) := by decide +kernel
theorem dX12_findR_214 : decode cX12_findR 214 = .ok (.goto (-105), 3) := by decide +kernel
theorem dX12_findR_217 : decode cX12_findR 217 = .ok (.aload_n 0, 1) := by decide +kernel
theorem dX12_findR_218 : decode cX12_findR 218 = .ok (.iconst 0, 1) := by decide +kernel
theorem dX12_findR_219 : decode cX12_findR 219 = .ok (.iconst 0, 1) := by decide +kernel
theorem dX12_findR_220 : decode cX12_findR 220 = .ok (.invokevirtual 311, 3) := by decide +kernel
theorem dX12_findR_223 : decode cX12_findR 223 = .ok (.iconst 0, 1) := by decide +kernel
theorem dX12_findR_224 : decode cX12_findR 224 = .ok (.istore 4, 2) := by decide +kernel
theorem dX12_findR_226 : decode cX12_findR 226 = .ok (.iload 4, 2) := by decide +kernel
theorem dX12_findR_228 : decode cX12_findR 228 = .ok (.aload_n 0, 1) := by decide +kernel
theorem dX12_findR_229 : decode cX12_findR 229 = .ok (.getfield 195, 3) := by decide +kernel
theorem dX12_findR_232 : decode cX12_findR 232 = .ok (.if_icmp .ge 63, 3) := by decide +kernel
theorem dX12_findR_235 : decode cX12_findR 235 = .ok (.aload_n 0, 1) := by decide +kernel
theorem dX12_findR_236 : decode cX12_findR 236 = .ok (.iload 4, 2) := by decide +kernel
theorem dX12_findR_238 : decode cX12_findR 238 = .ok (.invokevirtual 314, 3) := by decide +kernel
theorem dX12_findR_241 : decode cX12_findR 241 = .ok (.ifCond .eq 48, 3) := by decide +kernel
theorem dX12_findR_244 : decode cX12_findR 244 = .ok (.aload_n 0, 1) := by decide +kernel
theorem dX12_findR_245 : decode cX12_findR 245 = .ok (.bipush 64, 2) := by decide +kernel
theorem dX12_findR_247 : decode cX12_findR 247 = .ok (.sipush 128, 3) := by decide +kernel
theorem dX12_findR_250 : decode cX12_findR 250 = .ok (.invokevirtual 290, 3) := by decide +kernel
theorem dX12_findR_253 : decode cX12_findR 253 = .ok (.aload_n 0, 1) := by decide +kernel
theorem dX12_findR_254 : decode cX12_findR 254 = .ok (.sipush 128, 3) := by decide +kernel
theorem dX12_findR_257 : decode cX12_findR 257 = .ok (.aload_n 0, 1) := by decide +kernel
theorem dX12_findR_258 : decode cX12_findR 258 = .ok (.getfield 60, 3) := by decide +kernel
theorem dX12_findR_261 : decode cX12_findR 261 = .ok (.iload 4, 2) := by decide +kernel
theorem dX12_findR_263 : decode cX12_findR 263 = .ok (.iaload, 1) := by decide +kernel
theorem dX12_findR_264 : decode cX12_findR 264 = .ok (.invokevirtual 320, 3) := by decide +kernel
theorem dX12_findR_267 : decode cX12_findR 267 = .ok (.aload_n 0, 1) := by decide +kernel
theorem dX12_findR_268 : decode cX12_findR 268 = .ok (.sipush 128, 3) := by decide +kernel
theorem dX12_findR_271 : decode cX12_findR 271 = .ok (.aload_n 0, 1) := by decide +kernel
theorem dX12_findR_272 : decode cX12_findR 272 = .ok (.getfield 73, 3) := by decide +kernel
theorem dX12_findR_275 : decode cX12_findR 275 = .ok (.iload 4, 2) := by decide +kernel
theorem dX12_findR_277 : decode cX12_findR 277 = .ok (.laload, 1) := by decide +kernel
theorem dX12_findR_278 : decode cX12_findR 278 = .ok (.invokevirtual 323, 3) := by decide +kernel
theorem dX12_findR_281 : decode cX12_findR 281 = .ok (.aload_n 0, 1) := by decide +kernel
theorem dX12_findR_282 : decode cX12_findR 282 = .ok (.iconst 0, 1) := by decide +kernel
theorem dX12_findR_283 : decode cX12_findR 283 = .ok (.sipush 128, 3) := by decide +kernel
theorem dX12_findR_286 : decode cX12_findR 286 = .ok (.invokevirtual 326, 3) := by decide +kernel
theorem dX12_findR_289 : decode cX12_findR 289 = .ok (.iinc 4 1, 3) := by decide +kernel
theorem dX12_findR_292 : decode cX12_findR 292 = .ok (.goto (-66), 3) := by decide +kernel
theorem dX12_findR_295 : decode cX12_findR 295 = .ok (.aload_n 0, 1) := by decide +kernel
theorem dX12_findR_296 : decode cX12_findR 296 = .ok (.bipush 64, 2) := by decide +kernel
theorem dX12_findR_298 : decode cX12_findR 298 = .ok (.lload_n 1, 1) := by decide +kernel
theorem dX12_findR_299 : decode cX12_findR 299 = .ok (.invokevirtual 323, 3) := by decide +kernel
theorem dX12_findR_302 : decode cX12_findR 302 = .ok (.aload_n 0, 1) := by decide +kernel
theorem dX12_findR_303 : decode cX12_findR 303 = .ok (.iconst 0, 1) := by decide +kernel
theorem dX12_findR_304 : decode cX12_findR 304 = .ok (.invokevirtual 296, 3) := by decide +kernel
theorem dX12_findR_307 : decode cX12_findR 307 = .ok (.ifCond .eq 12, 3) := by decide +kernel
theorem dX12_findR_310 : decode cX12_findR 310 = .ok (.aload_n 0, 1) := by decide +kernel
theorem dX12_findR_311 : decode cX12_findR 311 = .ok (.bipush 64, 2) := by decide +kernel
theorem dX12_findR_313 : decode cX12_findR 313 = .ok (.iconst 1, 1) := by decide +kernel
theorem dX12_findR_314 : decode cX12_findR 314 = .ok (.invokevirtual 311, 3) := by decide +kernel
theorem dX12_findR_317 : decode cX12_findR 317 = .ok (.iconst 1, 1) := by decide +kernel
theorem dX12_findR_318 : decode cX12_findR 318 = .ok (.ireturn, 1) := by decide +kernel
theorem dX12_findR_319 : decode cX12_findR 319 = .ok (.aload_n 0, 1) := by decide +kernel
theorem dX12_findR_320 : decode cX12_findR 320 = .ok (.invokevirtual 329, 3) := by decide +kernel
theorem dX12_findR_323 : decode cX12_findR 323 = .ok (.aload_n 0, 1) := by decide +kernel
theorem dX12_findR_324 : decode cX12_findR 324 = .ok (.iconst 0, 1) := by decide +kernel
theorem dX12_findR_325 : decode cX12_findR 325 = .ok (.invokevirtual 332, 3) := by decide +kernel
theorem dX12_findR_328 : decode cX12_findR 328 = .ok (.aload_n 0, 1) := by decide +kernel
theorem dX12_findR_329 : decode cX12_findR 329 = .ok (.bipush 64, 2) := by decide +kernel
theorem dX12_findR_331 : decode cX12_findR 331 = .ok (.invokevirtual 332, 3) := by decide +kernel
theorem dX12_findR_334 : decode cX12_findR 334 = .ok (.iconst 1, 1) := by decide +kernel
theorem dX12_findR_335 : decode cX12_findR 335 = .ok (.ireturn, 1) := by decide +kernel
theorem dX12_isPrime_0 : decode cX12_isPrime 0 = .ok (.iconst 1, 1) := by decide +kernel
theorem dX12_isPrime_1 : decode cX12_isPrime 1 = .ok (.istore_n 1, 1) := by decide +kernel
theorem dX12_isPrime_2 : decode cX12_isPrime 2 = .ok (.iconst 2, 1) := by decide +kernel
theorem dX12_isPrime_3 : decode cX12_isPrime 3 = .ok (.istore_n 2, 1) := by decide +kernel
theorem dX12_isPrime_4 : decode cX12_isPrime 4 = .ok (.iload_n 2, 1) := by decide +kernel
theorem dX12_isPrime_5 : decode cX12_isPrime 5 = .ok (.iload_n 2, 1) := by decide +kernel
theorem dX12_isPrime_6 : decode cX12_isPrime 6 = .ok (.imul, 1) := by decide +kernel
theorem dX12_isPrime_7 : decode cX12_isPrime 7 = .ok (.iload_n 0, 1) := by decide +kernel
theorem dX12_isPrime_8 : decode cX12_isPrime 8 = .ok (.if_icmp .gt 25, 3) := by decide +kernel
theorem dX12_isPrime_11 : decode cX12_isPrime 11 = .ok (.iload_n 1, 1) := by decide +kernel
theorem dX12_isPrime_12 : decode cX12_isPrime 12 = .ok (.ifCond .eq 21, 3) := by decide +kernel
theorem dX12_isPrime_15 : decode cX12_isPrime 15 = .ok (.iload_n 0, 1) := by decide +kernel
theorem dX12_isPrime_16 : decode cX12_isPrime 16 = .ok (.iload_n 2, 1) := by decide +kernel
theorem dX12_isPrime_17 : decode cX12_isPrime 17 = .ok (.irem, 1) := by decide +kernel
theorem dX12_isPrime_18 : decode cX12_isPrime 18 = .ok (.ifCond .eq 7, 3) := by decide +kernel
theorem dX12_isPrime_21 : decode cX12_isPrime 21 = .ok (.iconst 1, 1) := by decide +kernel
theorem dX12_isPrime_22 : decode cX12_isPrime 22 = .ok (.goto 4, 3) := by decide +kernel
theorem dX12_isPrime_25 : decode cX12_isPrime 25 = .ok (.iconst 0, 1) := by decide +kernel
theorem dX12_isPrime_26 : decode cX12_isPrime 26 = .ok (.istore_n 1, 1) := by decide +kernel
theorem dX12_isPrime_27 : decode cX12_isPrime 27 = .ok (.iinc 2 1, 3) := by decide +kernel
theorem dX12_isPrime_30 : decode cX12_isPrime 30 = .ok (.goto (-26), 3) := by decide +kernel
theorem dX12_isPrime_33 : decode cX12_isPrime 33 = .ok (.iload_n 1, 1) := by decide +kernel
theorem dX12_isPrime_34 : decode cX12_isPrime 34 = .ok (.ireturn, 1) := by decide +kernel
theorem dX12_multiplyBig_0 : decode cX12_multiplyBig 0 = .ok (.aload_n 0, 1) := by decide +kernel
theorem dX12_multiplyBig_1 : decode cX12_multiplyBig 1 = .ok (.iload_n 1, 1) := by decide +kernel
theorem dX12_multiplyBig_2 : decode cX12_multiplyBig 2 = .ok (.sipush 192, 3) := by decide +kernel
theorem dX12_multiplyBig_5 : decode cX12_multiplyBig 5 = .ok (.invokevirtual 290, 3) := by decide +kernel
theorem dX12_multiplyBig_8 : decode cX12_multiplyBig 8 = .ok (.aload_n 0, 1) := by decide +kernel
theorem dX12_multiplyBig_9 : decode cX12_multiplyBig 9 = .ok (.iload_n 1, 1) := by decide +kernel
theorem dX12_multiplyBig_10 : decode cX12_multiplyBig 10 = .ok (.lload_n 2, 1) := by decide +kernel
theorem dX12_multiplyBig_11 : decode cX12_multiplyBig 11 = .ok (.ldc2_w 335, 3) := by decide +kernel
theorem dX12_multiplyBig_14 : decode cX12_multiplyBig 14 = .ok (.land, 1) := by decide +kernel
theorem dX12_multiplyBig_15 : decode cX12_multiplyBig 15 = .ok (.invokevirtual 307, 3) := by decide +kernel
theorem dX12_multiplyBig_18 : decode cX12_multiplyBig 18 = .ok (.aload_n 0, 1) := by decide +kernel
theorem dX12_multiplyBig_19 : decode cX12_multiplyBig 19 = .ok (.sipush 192, 3) := by decide +kernel
theorem dX12_multiplyBig_22 : decode cX12_multiplyBig 22 = .ok (.lload_n 2, 1) := by decide +kernel
theorem dX12_multiplyBig_23 : decode cX12_multiplyBig 23 = .ok (.bipush 30, 2) := by decide +kernel
theorem dX12_multiplyBig_25 : decode cX12_multiplyBig 25 = .ok (.lshr, 1) := by decide +kernel
theorem dX12_multiplyBig_26 : decode cX12_multiplyBig 26 = .ok (.invokevirtual 307, 3) := by decide +kernel
theorem dX12_multiplyBig_29 : decode cX12_multiplyBig 29 = .ok (.aload_n 0, 1) := by decide +kernel
theorem dX12_multiplyBig_30 : decode cX12_multiplyBig 30 = .ok (.sipush 192, 3) := by decide +kernel
theorem dX12_multiplyBig_33 : decode cX12_multiplyBig 33 = .ok (.ldc2_w 337, 3) := by decide +kernel
theorem dX12_multiplyBig_36 : decode cX12_multiplyBig 36 = .ok (.invokevirtual 307, 3) := by decide +kernel
theorem dX12_multiplyBig_39 : decode cX12_multiplyBig 39 = .ok (.aload_n 0, 1) := by decide +kernel
theorem dX12_multiplyBig_40 : decode cX12_multiplyBig 40 = .ok (.iload_n 1, 1) := by decide +kernel
theorem dX12_multiplyBig_41 : decode cX12_multiplyBig 41 = .ok (.sipush 192, 3) := by decide +kernel
theorem dX12_multiplyBig_44 : decode cX12_multiplyBig 44 = .ok (.invokevirtual 326, 3) := by decide +kernel
theorem dX12_multiplyBig_47 : decode cX12_multiplyBig 47 = .ok (.return_, 1) := by decide +kernel
theorem dX12_digits_0 : decode cX12_digits 0 = .ok (.aload_n 0, 1) := by decide +kernel
theorem dX12_digits_1 : decode cX12_digits 1 = .ok (.iload_n 1, 1) := by decide +kernel
theorem dX12_digits_2 : decode cX12_digits 2 = .ok (.iconst 0, 1) := by decide +kernel
theorem dX12_digits_3 : decode cX12_digits 3 = .ok (.iconst 1, 1) := by decide +kernel
theorem dX12_digits_4 : decode cX12_digits 4 = .ok (.invokestatic 96, 3) := by decide +kernel
theorem dX12_digits_7 : decode cX12_digits 7 = .ok (.invokevirtual 92, 3) := by decide +kernel
theorem dX12_digits_10 : decode cX12_digits 10 = .ok (.ifCond .ne 5, 3) := by decide +kernel
theorem dX12_digits_13 : decode cX12_digits 13 = .ok (.iconst 0, 1) := by decide +kernel
theorem dX12_digits_14 : decode cX12_digits 14 = .ok (.ireturn, 1) := by decide +kernel
theorem dX12_digits_15 : decode cX12_digits 15 = .ok (.aload_n 0, 1) := by decide +kernel
theorem dX12_digits_16 : decode cX12_digits 16 = .ok (.invokevirtual 339, 3) := by decide +kernel
theorem dX12_digits_19 : decode cX12_digits 19 = .ok (.ifCond .ne 5, 3) := by decide +kernel
theorem dX12_digits_22 : decode cX12_digits 22 = .ok (.iconst (-1), 1) := by decide +kernel
theorem dX12_digits_23 : decode cX12_digits 23 = .ok (.ireturn, 1) := by decide +kernel
theorem dX12_digits_24 : decode cX12_digits 24 = .ok (.iconst 0, 1) := by decide +kernel
theorem dX12_digits_25 : decode cX12_digits 25 = .ok (.istore_n 2, 1) := by decide +kernel
theorem dX12_digits_26 : decode cX12_digits 26 = .ok (.iconst 0, 1) := by decide +kernel
theorem dX12_digits_27 : decode cX12_digits 27 = .ok (.istore_n 3, 1) := by decide +kernel
theorem dX12_digits_28 : decode cX12_digits 28 = .ok (.iload_n 3, 1) := by decide +kernel
theorem dX12_digits_29 : decode cX12_digits 29 = .ok (.bipush 64, 2) := by decide +kernel
theorem dX12_digits_31 : decode cX12_digits 31 = .ok (.if_icmp .ge 33, 3) := by decide +kernel
theorem dX12_digits_34 : decode cX12_digits 34 = .ok (.aload_n 0, 1) := by decide +kernel
theorem dX12_digits_35 : decode cX12_digits 35 = .ok (.getfield 79, 3) := by decide +kernel
theorem dX12_digits_38 : decode cX12_digits 38 = .ok (.bipush 64, 2) := by decide +kernel
theorem dX12_digits_40 : decode cX12_digits 40 = .ok (.iload_n 1, 1) := by decide +kernel
theorem dX12_digits_41 : decode cX12_digits 41 = .ok (.imul, 1) := by decide +kernel
theorem dX12_digits_42 : decode cX12_digits 42 = .ok (.iload_n 3, 1) := by decide +kernel
theorem dX12_digits_43 : decode cX12_digits 43 = .ok (.iadd, 1) := by decide +kernel
theorem dX12_digits_44 : decode cX12_digits 44 = .ok (.iaload, 1) := by decide +kernel
theorem dX12_digits_45 : decode cX12_digits 45 = .ok (.ifCond .eq 11, 3) := by decide +kernel
theorem dX12_digits_48 : decode cX12_digits 48 = .ok (.iload_n 3, 1) := by decide +kernel
theorem dX12_digits_49 : decode cX12_digits 49 = .ok (.iconst 2, 1) := by decide +kernel
theorem dX12_digits_50 : decode cX12_digits 50 = .ok (.idiv, 1) := by decide +kernel
theorem dX12_digits_51 : decode cX12_digits 51 = .ok (.iconst 1, 1) := by decide +kernel
theorem dX12_digits_52 : decode cX12_digits 52 = .ok (.iadd, 1) := by decide +kernel
theorem dX12_digits_53 : decode cX12_digits 53 = .ok (.goto 4, 3) := by decide +kernel
theorem dX12_digits_56 : decode cX12_digits 56 = .ok (.iload_n 2, 1) := by decide +kernel
theorem dX12_digits_57 : decode cX12_digits 57 = .ok (.istore_n 2, 1) := by decide +kernel
theorem dX12_digits_58 : decode cX12_digits 58 = .ok (.iinc 3 1, 3) := by decide +kernel
theorem dX12_digits_61 : decode cX12_digits 61 = .ok (.goto (-33), 3) := by decide +kernel
theorem dX12_digits_64 : decode cX12_digits 64 = .ok (.iload_n 2, 1) := by decide +kernel
theorem dX12_digits_65 : decode cX12_digits 65 = .ok (.ireturn, 1) := by decide +kernel
theorem dX12_digit_0 : decode cX12_digit 0 = .ok (.aload_n 0, 1) := by decide +kernel
theorem dX12_digit_1 : decode cX12_digit 1 = .ok (.iload_n 1, 1) := by decide +kernel
theorem dX12_digit_2 : decode cX12_digit 2 = .ok (.iconst 0, 1) := by decide +kernel
theorem dX12_digit_3 : decode cX12_digit 3 = .ok (.iconst 1, 1) := by decide +kernel
theorem dX12_digit_4 : decode cX12_digit 4 = .ok (.invokestatic 96, 3) := by decide +kernel
theorem dX12_digit_7 : decode cX12_digit 7 = .ok (.invokevirtual 92, 3) := by decide +kernel
theorem dX12_digit_10 : decode cX12_digit 10 = .ok (.ifCond .ne 5, 3) := by decide +kernel
theorem dX12_digit_13 : decode cX12_digit 13 = .ok (.iconst 0, 1) := by decide +kernel
theorem dX12_digit_14 : decode cX12_digit 14 = .ok (.ireturn, 1) := by decide +kernel
theorem dX12_digit_15 : decode cX12_digit 15 = .ok (.iload_n 2, 1) := by decide +kernel
theorem dX12_digit_16 : decode cX12_digit 16 = .ok (.iconst 0, 1) := by decide +kernel
theorem dX12_digit_17 : decode cX12_digit 17 = .ok (.bipush 31, 2) := by decide +kernel
theorem dX12_digit_19 : decode cX12_digit 19 = .ok (.invokestatic 96, 3) := by decide +kernel
theorem dX12_digit_22 : decode cX12_digit 22 = .ok (.ifCond .eq 10, 3) := by decide +kernel
theorem dX12_digit_25 : decode cX12_digit 25 = .ok (.aload_n 0, 1) := by decide +kernel
theorem dX12_digit_26 : decode cX12_digit 26 = .ok (.invokevirtual 339, 3) := by decide +kernel
theorem dX12_digit_29 : decode cX12_digit 29 = .ok (.ifCond .ne 5, 3) := by decide +kernel
theorem dX12_digit_32 : decode cX12_digit 32 = .ok (.iconst 0, 1) := by decide +kernel
theorem dX12_digit_33 : decode cX12_digit 33 = .ok (.ireturn, 1) := by decide +kernel
theorem dX12_digit_34 : decode cX12_digit 34 = .ok (.aload_n 0, 1) := by decide +kernel
theorem dX12_digit_35 : decode cX12_digit 35 = .ok (.getfield 79, 3) := by decide +kernel
theorem dX12_digit_38 : decode cX12_digit 38 = .ok (.bipush 64, 2) := by decide +kernel
theorem dX12_digit_40 : decode cX12_digit 40 = .ok (.iload_n 1, 1) := by decide +kernel
theorem dX12_digit_41 : decode cX12_digit 41 = .ok (.imul, 1) := by decide +kernel
theorem dX12_digit_42 : decode cX12_digit 42 = .ok (.iconst 2, 1) := by decide +kernel
theorem dX12_digit_43 : decode cX12_digit 43 = .ok (.iload_n 2, 1) := by decide +kernel
theorem dX12_digit_44 : decode cX12_digit 44 = .ok (.imul, 1) := by decide +kernel
theorem dX12_digit_45 : decode cX12_digit 45 = .ok (.iadd, 1) := by decide +kernel
theorem dX12_digit_46 : decode cX12_digit 46 = .ok (.iconst 1, 1) := by decide +kernel
theorem dX12_digit_47 : decode cX12_digit 47 = .ok (.iadd, 1) := by decide +kernel
theorem dX12_digit_48 : decode cX12_digit 48 = .ok (.iaload, 1) := by decide +kernel
theorem dX12_digit_49 : decode cX12_digit 49 = .ok (.bipush 16, 2) := by decide +kernel
theorem dX12_digit_51 : decode cX12_digit 51 = .ok (.ishl, 1) := by decide +kernel
theorem dX12_digit_52 : decode cX12_digit 52 = .ok (.aload_n 0, 1) := by decide +kernel
theorem dX12_digit_53 : decode cX12_digit 53 = .ok (.getfield 79, 3) := by decide +kernel
theorem dX12_digit_56 : decode cX12_digit 56 = .ok (.bipush 64, 2) := by decide +kernel
theorem dX12_digit_58 : decode cX12_digit 58 = .ok (.iload_n 1, 1) := by decide +kernel
theorem dX12_digit_59 : decode cX12_digit 59 = .ok (.imul, 1) := by decide +kernel
theorem dX12_digit_60 : decode cX12_digit 60 = .ok (.iconst 2, 1) := by decide +kernel
theorem dX12_digit_61 : decode cX12_digit 61 = .ok (.iload_n 2, 1) := by decide +kernel
theorem dX12_digit_62 : decode cX12_digit 62 = .ok (.imul, 1) := by decide +kernel
theorem dX12_digit_63 : decode cX12_digit 63 = .ok (.iadd, 1) := by decide +kernel
theorem dX12_digit_64 : decode cX12_digit 64 = .ok (.iaload, 1) := by decide +kernel
theorem dX12_digit_65 : decode cX12_digit 65 = .ok (.ior, 1) := by decide +kernel
theorem dX12_digit_66 : decode cX12_digit 66 = .ok (.ireturn, 1) := by decide +kernel
theorem dX12_violations_0 : decode cX12_violations 0 = .ok (.aload_n 0, 1) := by decide +kernel
theorem dX12_violations_1 : decode cX12_violations 1 = .ok (.aload_n 0, 1) := by decide +kernel
theorem dX12_violations_2 : decode cX12_violations 2 = .ok (.getfield 183, 3) := by decide +kernel
theorem dX12_violations_5 : decode cX12_violations 5 = .ok (.ifCond .ne 7, 3) := by decide +kernel
theorem dX12_violations_8 : decode cX12_violations 8 = .ok (.iconst 1, 1) := by decide +kernel
theorem dX12_violations_9 : decode cX12_violations 9 = .ok (.goto 18, 3) := by decide +kernel
theorem dX12_violations_12 : decode cX12_violations 12 = .ok (.iload_n 1, 1) := by decide +kernel
theorem dX12_violations_13 : decode cX12_violations 13 = .ok (.iconst 0, 1) := by decide +kernel
theorem dX12_violations_14 : decode cX12_violations 14 = .ok (.bipush 100, 2) := by decide +kernel
theorem dX12_violations_16 : decode cX12_violations 16 = .ok (.invokestatic 96, 3) := by decide +kernel
theorem dX12_violations_19 : decode cX12_violations 19 = .ok (.ifCond .ne 7, 3) := by decide +kernel
theorem dX12_violations_22 : decode cX12_violations 22 = .ok (.iconst 2, 1) := by decide +kernel
theorem dX12_violations_23 : decode cX12_violations 23 = .ok (.goto 4, 3) := by decide +kernel
theorem dX12_violations_26 : decode cX12_violations 26 = .ok (.iconst 0, 1) := by decide +kernel
theorem dX12_violations_27 : decode cX12_violations 27 = .ok (.putfield 85, 3) := by decide +kernel
theorem dX12_violations_30 : decode cX12_violations 30 = .ok (.aload_n 0, 1) := by decide +kernel
theorem dX12_violations_31 : decode cX12_violations 31 = .ok (.getfield 85, 3) := by decide +kernel
theorem dX12_violations_34 : decode cX12_violations 34 = .ok (.ifCond .le 5, 3) := by decide +kernel
theorem dX12_violations_37 : decode cX12_violations 37 = .ok (.iconst 0, 1) := by decide +kernel
theorem dX12_violations_38 : decode cX12_violations 38 = .ok (.ireturn, 1) := by decide +kernel
theorem dX12_violations_39 : decode cX12_violations 39 = .ok (.aload_n 0, 1) := by decide +kernel
theorem dX12_violations_40 : decode cX12_violations 40 = .ok (.iconst 0, 1) := by decide +kernel
theorem dX12_violations_41 : decode cX12_violations 41 = .ok (.putfield 342, 3) := by decide +kernel
theorem dX12_violations_44 : decode cX12_violations 44 = .ok (.iconst 0, 1) := by decide +kernel
theorem dX12_violations_45 : decode cX12_violations 45 = .ok (.istore_n 2, 1) := by decide +kernel
theorem dX12_violations_46 : decode cX12_violations 46 = .ok (.iload_n 2, 1) := by decide +kernel
theorem dX12_violations_47 : decode cX12_violations 47 = .ok (.aload_n 0, 1) := by decide +kernel
theorem dX12_violations_48 : decode cX12_violations 48 = .ok (.getfield 271, 3) := by decide +kernel
theorem dX12_violations_51 : decode cX12_violations 51 = .ok (.if_icmp .ge 75, 3) := by decide +kernel
theorem dX12_violations_54 : decode cX12_violations 54 = .ok (.aload_n 0, 1) := by decide +kernel
theorem dX12_violations_55 : decode cX12_violations 55 = .ok (.getfield 51, 3) := by decide +kernel
theorem dX12_violations_58 : decode cX12_violations 58 = .ok (.iload_n 2, 1) := by decide +kernel
theorem dX12_violations_59 : decode cX12_violations 59 = .ok (.iaload, 1) := by decide +kernel
theorem dX12_violations_60 : decode cX12_violations 60 = .ok (.i2l, 1) := by decide +kernel
theorem dX12_violations_61 : decode cX12_violations 61 = .ok (.iload_n 1, 1) := by decide +kernel
theorem dX12_violations_62 : decode cX12_violations 62 = .ok (.i2l, 1) := by decide +kernel
theorem dX12_violations_63 : decode cX12_violations 63 = .ok (.aload_n 0, 1) := by decide +kernel
theorem dX12_violations_64 : decode cX12_violations 64 = .ok (.getfield 54, 3) := by decide +kernel
theorem dX12_violations_67 : decode cX12_violations 67 = .ok (.iload_n 2, 1) := by decide +kernel
theorem dX12_violations_68 : decode cX12_violations 68 = .ok (.iaload, 1) := by decide +kernel
theorem dX12_violations_69 : decode cX12_violations 69 = .ok (.i2l, 1) := by decide +kernel
theorem dX12_violations_70 : decode cX12_violations 70 = .ok (.lmul, 1) := by decide +kernel
theorem dX12_violations_71 : decode cX12_violations 71 = .ok (.lcmp, 1) := by decide +kernel
theorem dX12_violations_72 : decode cX12_violations 72 = .ok (.ifCond .le 48, 3) := by decide +kernel
theorem dX12_violations_75 : decode cX12_violations 75 = .ok (.aload_n 0, 1) := by decide +kernel
theorem dX12_violations_76 : decode cX12_violations 76 = .ok (.aload_n 0, 1) := by decide +kernel
theorem dX12_violations_77 : decode cX12_violations 77 = .ok (.getfield 42, 3) := by decide +kernel
theorem dX12_violations_80 : decode cX12_violations 80 = .ok (.iload_n 2, 1) := by decide +kernel
theorem dX12_violations_81 : decode cX12_violations 81 = .ok (.iaload, 1) := by decide +kernel
theorem dX12_violations_82 : decode cX12_violations 82 = .ok (.aload_n 0, 1) := by decide +kernel
theorem dX12_violations_83 : decode cX12_violations 83 = .ok (.getfield 45, 3) := by decide +kernel
theorem dX12_violations_86 : decode cX12_violations 86 = .ok (.iload_n 2, 1) := by decide +kernel
theorem dX12_violations_87 : decode cX12_violations 87 = .ok (.iaload, 1) := by decide +kernel
theorem dX12_violations_88 : decode cX12_violations 88 = .ok (.aload_n 0, 1) := by decide +kernel
theorem dX12_violations_89 : decode cX12_violations 89 = .ok (.getfield 48, 3) := by decide +kernel
theorem dX12_violations_92 : decode cX12_violations 92 = .ok (.iload_n 2, 1) := by decide +kernel
theorem dX12_violations_93 : decode cX12_violations 93 = .ok (.iaload, 1) := by decide +kernel
theorem dX12_violations_94 : decode cX12_violations 94 = .ok (.invokevirtual 216, 3) := by decide +kernel
theorem dX12_violations_97 : decode cX12_violations 97 = .ok (.ifCond .eq 23, 3) := by decide +kernel
theorem dX12_violations_100 : decode cX12_violations 100 = .ok (.aload_n 0, 1) := by decide +kernel
theorem dX12_violations_101 : decode cX12_violations 101 = .ok (.getfield 82, 3) := by decide +kernel
theorem dX12_violations_104 : decode cX12_violations 104 = .ok (.aload_n 0, 1) := by decide +kernel
theorem dX12_violations_105 : decode cX12_violations 105 = .ok (.getfield 342, 3) := by decide +kernel
theorem dX12_violations_108 : decode cX12_violations 108 = .ok (.iload_n 2, 1) := by decide +kernel
theorem dX12_violations_109 : decode cX12_violations 109 = .ok (.iastore, 1) := by decide +kernel
theorem dX12_violations_110 : decode cX12_violations 110 = .ok (.aload_n 0, 1) := by decide +kernel
theorem dX12_violations_111 : decode cX12_violations 111 = .ok (.dup, 1) := by decide +kernel
theorem dX12_violations_112 : decode cX12_violations 112 = .ok (.getfield 342, 3) := by decide +kernel
theorem dX12_violations_115 : decode cX12_violations 115 = .ok (.iconst 1, 1) := by decide +kernel
theorem dX12_violations_116 : decode cX12_violations 116 = .ok (.iadd, 1) := by decide +kernel
theorem dX12_violations_117 : decode cX12_violations 117 = .ok (.putfield 342, 3) := by decide +kernel
theorem dX12_violations_120 : decode cX12_violations 120 = .ok (.iinc 2 1, 3) := by decide +kernel
theorem dX12_violations_123 : decode cX12_violations 123 = .ok (.goto (-77), 3) := by decide +kernel
theorem dX12_violations_126 : decode cX12_violations 126 = .ok (.aload_n 0, 1) := by decide +kernel
theorem dX12_violations_127 : decode cX12_violations 127 = .ok (.getfield 342, 3) := by decide +kernel
theorem dX12_violations_130 : decode cX12_violations 130 = .ok (.ireturn, 1) := by decide +kernel
theorem dX12_violation_0 : decode cX12_violation 0 = .ok (.aload_n 0, 1) := by decide +kernel
theorem dX12_violation_1 : decode cX12_violation 1 = .ok (.iconst 0, 1) := by decide +kernel
theorem dX12_violation_2 : decode cX12_violation 2 = .ok (.putfield 85, 3) := by decide +kernel
theorem dX12_violation_5 : decode cX12_violation 5 = .ok (.iload_n 1, 1) := by decide +kernel
theorem dX12_violation_6 : decode cX12_violation 6 = .ok (.iconst 0, 1) := by decide +kernel
theorem dX12_violation_7 : decode cX12_violation 7 = .ok (.aload_n 0, 1) := by decide +kernel
theorem dX12_violation_8 : decode cX12_violation 8 = .ok (.getfield 342, 3) := by decide +kernel
theorem dX12_violation_11 : decode cX12_violation 11 = .ok (.iconst 1, 1) := by decide +kernel
theorem dX12_violation_12 : decode cX12_violation 12 = .ok (.isub, 1) := by decide +kernel
theorem dX12_violation_13 : decode cX12_violation 13 = .ok (.invokestatic 96, 3) := by decide +kernel
theorem dX12_violation_16 : decode cX12_violation 16 = .ok (.ifCond .eq 12, 3) := by decide +kernel
theorem dX12_violation_19 : decode cX12_violation 19 = .ok (.aload_n 0, 1) := by decide +kernel
theorem dX12_violation_20 : decode cX12_violation 20 = .ok (.getfield 82, 3) := by decide +kernel
theorem dX12_violation_23 : decode cX12_violation 23 = .ok (.iload_n 1, 1) := by decide +kernel
theorem dX12_violation_24 : decode cX12_violation 24 = .ok (.iaload, 1) := by decide +kernel
theorem dX12_violation_25 : decode cX12_violation 25 = .ok (.goto 4, 3) := by decide +kernel
theorem dX12_violation_28 : decode cX12_violation 28 = .ok (.iconst (-1), 1) := by decide +kernel
theorem dX12_violation_29 : decode cX12_violation 29 = .ok (.ireturn, 1) := by decide +kernel
theorem dX12_isWithin_0 : decode cX12_isWithin 0 = .ok (.aload_n 0, 1) := by decide +kernel
theorem dX12_isWithin_1 : decode cX12_isWithin 1 = .ok (.getfield 66, 3) := by decide +kernel
theorem dX12_isWithin_4 : decode cX12_isWithin 4 = .ok (.iload_n 1, 1) := by decide +kernel
theorem dX12_isWithin_5 : decode cX12_isWithin 5 = .ok (.baload, 1) := by decide +kernel
theorem dX12_isWithin_6 : decode cX12_isWithin 6 = .ok (.ifCond .ne 23, 3) := by decide +kernel
theorem dX12_isWithin_9 : decode cX12_isWithin 9 = .ok (.aload_n 0, 1) := by decide +kernel
theorem dX12_isWithin_10 : decode cX12_isWithin 10 = .ok (.getfield 57, 3) := by decide +kernel
theorem dX12_isWithin_13 : decode cX12_isWithin 13 = .ok (.iload_n 1, 1) := by decide +kernel
theorem dX12_isWithin_14 : decode cX12_isWithin 14 = .ok (.laload, 1) := by decide +kernel
theorem dX12_isWithin_15 : decode cX12_isWithin 15 = .ok (.iconst 0, 1) := by decide +kernel
theorem dX12_isWithin_16 : decode cX12_isWithin 16 = .ok (.iconst 0, 1) := by decide +kernel
theorem dX12_isWithin_17 : decode cX12_isWithin 17 = .ok (.iconst 0, 1) := by decide +kernel
theorem dX12_isWithin_18 : decode cX12_isWithin 18 = .ok (.invokestatic 229, 3) := by decide +kernel
theorem dX12_isWithin_21 : decode cX12_isWithin 21 = .ok (.lcmp, 1) := by decide +kernel
theorem dX12_isWithin_22 : decode cX12_isWithin 22 = .ok (.ifCond .eq 7, 3) := by decide +kernel
theorem dX12_isWithin_25 : decode cX12_isWithin 25 = .ok (.iconst 1, 1) := by decide +kernel
theorem dX12_isWithin_26 : decode cX12_isWithin 26 = .ok (.goto 4, 3) := by decide +kernel
theorem dX12_isWithin_29 : decode cX12_isWithin 29 = .ok (.iconst 0, 1) := by decide +kernel
theorem dX12_isWithin_30 : decode cX12_isWithin 30 = .ok (.istore_n 3, 1) := by decide +kernel
theorem dX12_isWithin_31 : decode cX12_isWithin 31 = .ok (.iconst 0, 1) := by decide +kernel
theorem dX12_isWithin_32 : decode cX12_isWithin 32 = .ok (.istore 4, 2) := by decide +kernel
theorem dX12_isWithin_34 : decode cX12_isWithin 34 = .ok (.iload 4, 2) := by decide +kernel
theorem dX12_isWithin_36 : decode cX12_isWithin 36 = .ok (.iconst 3, 1) := by decide +kernel
theorem dX12_isWithin_37 : decode cX12_isWithin 37 = .ok (.if_icmp .ge 39, 3) := by decide +kernel
theorem dX12_isWithin_40 : decode cX12_isWithin 40 = .ok (.iload_n 3, 1) := by decide +kernel
theorem dX12_isWithin_41 : decode cX12_isWithin 41 = .ok (.ifCond .eq 27, 3) := by decide +kernel
theorem dX12_isWithin_44 : decode cX12_isWithin 44 = .ok (.aload_n 0, 1) := by decide +kernel
theorem dX12_isWithin_45 : decode cX12_isWithin 45 = .ok (.getfield 57, 3) := by decide +kernel
theorem dX12_isWithin_48 : decode cX12_isWithin 48 = .ok (.iload_n 1, 1) := by decide +kernel
theorem dX12_isWithin_49 : decode cX12_isWithin 49 = .ok (.laload, 1) := by decide +kernel
theorem dX12_isWithin_50 : decode cX12_isWithin 50 = .ok (.iload 4, 2) := by decide +kernel
theorem dX12_isWithin_52 : decode cX12_isWithin 52 = .ok (.invokestatic 244, 3) := by decide +kernel
theorem dX12_isWithin_55 : decode cX12_isWithin 55 = .ok (.iload_n 2, 1) := by decide +kernel
theorem dX12_isWithin_56 : decode cX12_isWithin 56 = .ok (.ineg, 1) := by decide +kernel
theorem dX12_isWithin_57 : decode cX12_isWithin 57 = .ok (.iload_n 2, 1) := by decide +kernel
theorem dX12_isWithin_58 : decode cX12_isWithin 58 = .ok (.invokestatic 96, 3) := by decide +kernel
theorem dX12_isWithin_61 : decode cX12_isWithin 61 = .ok (.ifCond .eq 7, 3) := by decide +kernel
theorem dX12_isWithin_64 : decode cX12_isWithin 64 = .ok (.iconst 1, 1) := by decide +kernel
theorem dX12_isWithin_65 : decode cX12_isWithin 65 = .ok (.goto 4, 3) := by decide +kernel
theorem dX12_isWithin_68 : decode cX12_isWithin 68 = .ok (.iconst 0, 1) := by decide +kernel
theorem dX12_isWithin_69 : decode cX12_isWithin 69 = .ok (.istore_n 3, 1) := by decide +kernel
theorem dX12_isWithin_70 : decode cX12_isWithin 70 = .ok (.iinc 4 1, 3) := by decide +kernel
theorem dX12_isWithin_73 : decode cX12_isWithin 73 = .ok (.goto (-39), 3) := by decide +kernel
theorem dX12_isWithin_76 : decode cX12_isWithin 76 = .ok (.iload_n 3, 1) := by decide +kernel
theorem dX12_isWithin_77 : decode cX12_isWithin 77 = .ok (.ireturn, 1) := by decide +kernel
theorem dX12_complete_0 : decode cX12_complete 0 = .ok (.aload_n 0, 1) := by decide +kernel
theorem dX12_complete_1 : decode cX12_complete 1 = .ok (.aload_n 0, 1) := by decide +kernel
theorem dX12_complete_2 : decode cX12_complete 2 = .ok (.getfield 183, 3) := by decide +kernel
theorem dX12_complete_5 : decode cX12_complete 5 = .ok (.ifCond .ne 7, 3) := by decide +kernel
theorem dX12_complete_8 : decode cX12_complete 8 = .ok (.iconst 1, 1) := by decide +kernel
theorem dX12_complete_9 : decode cX12_complete 9 = .ok (.goto 31, 3) := by decide +kernel
theorem dX12_complete_12 : decode cX12_complete 12 = .ok (.iload_n 1, 1) := by decide +kernel
theorem dX12_complete_13 : decode cX12_complete 13 = .ok (.iconst 1, 1) := by decide +kernel
theorem dX12_complete_14 : decode cX12_complete 14 = .ok (.bipush 12, 2) := by decide +kernel
theorem dX12_complete_16 : decode cX12_complete 16 = .ok (.invokestatic 96, 3) := by decide +kernel
theorem dX12_complete_19 : decode cX12_complete 19 = .ok (.ifCond .ne 7, 3) := by decide +kernel
theorem dX12_complete_22 : decode cX12_complete 22 = .ok (.iconst 2, 1) := by decide +kernel
theorem dX12_complete_23 : decode cX12_complete 23 = .ok (.goto 17, 3) := by decide +kernel
theorem dX12_complete_26 : decode cX12_complete 26 = .ok (.iload_n 2, 1) := by decide +kernel
theorem dX12_complete_27 : decode cX12_complete 27 = .ok (.iconst 0, 1) := by decide +kernel
theorem dX12_complete_28 : decode cX12_complete 28 = .ok (.iconst 1, 1) := by decide +kernel
theorem dX12_complete_29 : decode cX12_complete 29 = .ok (.invokestatic 96, 3) := by decide +kernel
theorem dX12_complete_32 : decode cX12_complete 32 = .ok (.ifCond .ne 7, 3) := by decide +kernel
theorem dX12_complete_35 : decode cX12_complete 35 = .ok (.iconst 3, 1) := by decide +kernel
theorem dX12_complete_36 : decode cX12_complete 36 = .ok (.goto 4, 3) := by decide +kernel
theorem dX12_complete_39 : decode cX12_complete 39 = .ok (.iconst 0, 1) := by decide +kernel
theorem dX12_complete_40 : decode cX12_complete 40 = .ok (.putfield 85, 3) := by decide +kernel
theorem dX12_complete_43 : decode cX12_complete 43 = .ok (.aload_n 0, 1) := by decide +kernel
theorem dX12_complete_44 : decode cX12_complete 44 = .ok (.getfield 85, 3) := by decide +kernel
theorem dX12_complete_47 : decode cX12_complete 47 = .ok (.ifCond .le 5, 3) := by decide +kernel
theorem dX12_complete_50 : decode cX12_complete 50 = .ok (.iconst 0, 1) := by decide +kernel
theorem dX12_complete_51 : decode cX12_complete 51 = .ok (.ireturn, 1) := by decide +kernel
theorem dX12_complete_52 : decode cX12_complete 52 = .ok (.iconst 0, 1) := by decide +kernel
theorem dX12_complete_53 : decode cX12_complete 53 = .ok (.istore_n 3, 1) := by decide +kernel
theorem dX12_complete_54 : decode cX12_complete 54 = .ok (.iconst 0, 1) := by decide +kernel
theorem dX12_complete_55 : decode cX12_complete 55 = .ok (.istore 4, 2) := by decide +kernel
theorem dX12_complete_57 : decode cX12_complete 57 = .ok (.iload 4, 2) := by decide +kernel
theorem dX12_complete_59 : decode cX12_complete 59 = .ok (.aload_n 0, 1) := by decide +kernel
theorem dX12_complete_60 : decode cX12_complete 60 = .ok (.getfield 195, 3) := by decide +kernel
theorem dX12_complete_63 : decode cX12_complete 63 = .ok (.if_icmp .ge 31, 3) := by decide +kernel
theorem dX12_complete_66 : decode cX12_complete 66 = .ok (.iload_n 2, 1) := by decide +kernel
theorem dX12_complete_67 : decode cX12_complete 67 = .ok (.ifCond .ne 27, 3) := by decide +kernel
theorem dX12_complete_70 : decode cX12_complete 70 = .ok (.aload_n 0, 1) := by decide +kernel
theorem dX12_complete_71 : decode cX12_complete 71 = .ok (.iload 4, 2) := by decide +kernel
theorem dX12_complete_73 : decode cX12_complete 73 = .ok (.iload_n 1, 1) := by decide +kernel
theorem dX12_complete_74 : decode cX12_complete 74 = .ok (.invokevirtual 345, 3) := by decide +kernel
theorem dX12_complete_77 : decode cX12_complete 77 = .ok (.ifCond .eq 9, 3) := by decide +kernel
theorem dX12_complete_80 : decode cX12_complete 80 = .ok (.iload_n 3, 1) := by decide +kernel
theorem dX12_complete_81 : decode cX12_complete 81 = .ok (.iconst 1, 1) := by decide +kernel
theorem dX12_complete_82 : decode cX12_complete 82 = .ok (.iadd, 1) := by decide +kernel
theorem dX12_complete_83 : decode cX12_complete 83 = .ok (.goto 4, 3) := by decide +kernel
theorem dX12_complete_86 : decode cX12_complete 86 = .ok (.iload_n 3, 1) := by decide +kernel
theorem dX12_complete_87 : decode cX12_complete 87 = .ok (.istore_n 3, 1) := by decide +kernel
theorem dX12_complete_88 : decode cX12_complete 88 = .ok (.iinc 4 1, 3) := by decide +kernel
theorem dX12_complete_91 : decode cX12_complete 91 = .ok (.goto (-34), 3) := by decide +kernel
theorem dX12_complete_94 : decode cX12_complete 94 = .ok (.iconst 0, 1) := by decide +kernel
theorem dX12_complete_95 : decode cX12_complete 95 = .ok (.istore 4, 2) := by decide +kernel
theorem dX12_complete_97 : decode cX12_complete 97 = .ok (.iload 4, 2) := by decide +kernel
theorem dX12_complete_99 : decode cX12_complete 99 = .ok (.iload_n 1, 1) := by decide +kernel
theorem dX12_complete_100 : decode cX12_complete 100 = .ok (.if_icmp .gt 117, 3) := by decide +kernel
theorem dX12_complete_103 : decode cX12_complete 103 = .ok (.iload_n 2, 1) := by decide +kernel
theorem dX12_complete_104 : decode cX12_complete 104 = .ok (.iconst 1, 1) := by decide +kernel
theorem dX12_complete_105 : decode cX12_complete 105 = .ok (.if_icmp .ne 112, 3) := by decide +kernel
theorem dX12_complete_108 : decode cX12_complete 108 = .ok (.iload_n 1, 1) := by decide +kernel
theorem dX12_complete_109 : decode cX12_complete 109 = .ok (.ineg, 1) := by decide +kernel
theorem dX12_complete_110 : decode cX12_complete 110 = .ok (.istore 5, 2) := by decide +kernel
theorem dX12_complete_112 : decode cX12_complete 112 = .ok (.iload 5, 2) := by decide +kernel
theorem dX12_complete_114 : decode cX12_complete 114 = .ok (.iload_n 1, 1) := by decide +kernel
theorem dX12_complete_115 : decode cX12_complete 115 = .ok (.if_icmp .gt 96, 3) := by decide +kernel
theorem dX12_complete_118 : decode cX12_complete 118 = .ok (.iload_n 1, 1) := by decide +kernel
theorem dX12_complete_119 : decode cX12_complete 119 = .ok (.ineg, 1) := by decide +kernel
theorem dX12_complete_120 : decode cX12_complete 120 = .ok (.istore 6, 2) := by decide +kernel
theorem dX12_complete_122 : decode cX12_complete 122 = .ok (.iload 6, 2) := by decide +kernel
theorem dX12_complete_124 : decode cX12_complete 124 = .ok (.iload_n 1, 1) := by decide +kernel
theorem dX12_complete_125 : decode cX12_complete 125 = .ok (.if_icmp .gt 80, 3) := by decide +kernel
theorem dX12_complete_128 : decode cX12_complete 128 = .ok (.iload 4, 2) := by decide +kernel
theorem dX12_complete_130 : decode cX12_complete 130 = .ok (.ifCond .ne 13, 3) := by decide +kernel
theorem dX12_complete_133 : decode cX12_complete 133 = .ok (.iload 5, 2) := by decide +kernel
theorem dX12_complete_135 : decode cX12_complete 135 = .ok (.ifCond .ne 8, 3) := by decide +kernel
theorem dX12_complete_138 : decode cX12_complete 138 = .ok (.iload 6, 2) := by decide +kernel
theorem dX12_complete_140 : decode cX12_complete 140 = .ok (.ifCond .eq 30, 3) := by decide +kernel
theorem dX12_complete_143 : decode cX12_complete 143 = .ok (.aload_n 0, 1) := by decide +kernel
theorem dX12_complete_144 : decode cX12_complete 144 = .ok (.iload 4, 2) := by decide +kernel
theorem dX12_complete_146 : decode cX12_complete 146 = .ok (.iload 5, 2) := by decide +kernel
theorem dX12_complete_148 : decode cX12_complete 148 = .ok (.iload 6, 2) := by decide +kernel
theorem dX12_complete_150 : decode cX12_complete 150 = .ok (.invokevirtual 241, 3) := by decide +kernel
theorem dX12_complete_153 : decode cX12_complete 153 = .ok (.iload 4, 2) := by decide +kernel
theorem dX12_complete_155 : decode cX12_complete 155 = .ok (.iload 5, 2) := by decide +kernel
theorem dX12_complete_157 : decode cX12_complete 157 = .ok (.iload 6, 2) := by decide +kernel
theorem dX12_complete_159 : decode cX12_complete 159 = .ok (.invokestatic 229, 3) := by decide +kernel
theorem dX12_complete_162 : decode cX12_complete 162 = .ok (.lcmp, 1) := by decide +kernel
theorem dX12_complete_163 : decode cX12_complete 163 = .ok (.ifCond .ne 7, 3) := by decide +kernel
theorem dX12_complete_166 : decode cX12_complete 166 = .ok (.iconst 1, 1) := by decide +kernel
theorem dX12_complete_167 : decode cX12_complete 167 = .ok (.goto 4, 3) := by decide +kernel
theorem dX12_complete_170 : decode cX12_complete 170 = .ok (.iconst 0, 1) := by decide +kernel
theorem dX12_complete_171 : decode cX12_complete 171 = .ok (.istore 7, 2) := by decide +kernel
theorem dX12_complete_173 : decode cX12_complete 173 = .ok (.iload 7, 2) := by decide +kernel
theorem dX12_complete_175 : decode cX12_complete 175 = .ok (.ifCond .eq 22, 3) := by decide +kernel
theorem dX12_complete_178 : decode cX12_complete 178 = .ok (.aload_n 0, 1) := by decide +kernel
theorem dX12_complete_179 : decode cX12_complete 179 = .ok (.iload 4, 2) := by decide +kernel
theorem dX12_complete_181 : decode cX12_complete 181 = .ok (.iload 5, 2) := by decide +kernel
theorem dX12_complete_183 : decode cX12_complete 183 = .ok (.iload 6, 2) := by decide +kernel
theorem dX12_complete_185 : decode cX12_complete 185 = .ok (.invokevirtual 216, 3) := by decide +kernel
theorem dX12_complete_188 : decode cX12_complete 188 = .ok (.ifCond .ne 9, 3) := by decide +kernel
theorem dX12_complete_191 : decode cX12_complete 191 = .ok (.iload_n 3, 1) := by decide +kernel
theorem dX12_complete_192 : decode cX12_complete 192 = .ok (.iconst 1, 1) := by decide +kernel
theorem dX12_complete_193 : decode cX12_complete 193 = .ok (.iadd, 1) := by decide +kernel
theorem dX12_complete_194 : decode cX12_complete 194 = .ok (.goto 4, 3) := by decide +kernel
theorem dX12_complete_197 : decode cX12_complete 197 = .ok (.iload_n 3, 1) := by decide +kernel
theorem dX12_complete_198 : decode cX12_complete 198 = .ok (.istore_n 3, 1) := by decide +kernel
theorem dX12_complete_199 : decode cX12_complete 199 = .ok (.iinc 6 1, 3) := by decide +kernel
theorem dX12_complete_202 : decode cX12_complete 202 = .ok (.goto (-80), 3) := by decide +kernel
theorem dX12_complete_205 : decode cX12_complete 205 = .ok (.iinc 5 1, 3) := by decide +kernel
theorem dX12_complete_208 : decode cX12_complete 208 = .ok (.goto (-96), 3) := by decide +kernel
theorem dX12_complete_211 : decode cX12_complete 211 = .ok (.iinc 4 1, 3) := by decide +kernel
theorem dX12_complete_214 : decode cX12_complete 214 = .ok (.goto (-117), 3) := by decide +kernel
theorem dX12_complete_217 : decode cX12_complete 217 = .ok (.iload_n 3, 1) := by decide +kernel
theorem dX12_complete_218 : decode cX12_complete 218 = .ok (.ireturn, 1) := by decide +kernel
