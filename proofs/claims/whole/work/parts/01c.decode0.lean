theorem dX0_init_0 : decode cX0_init 0 = .ok (.aload_n 0, 1) := by decide +kernel
theorem dX0_init_1 : decode cX0_init 1 = .ok (.invokespecial 3, 3) := by decide +kernel
theorem dX0_init_4 : decode cX0_init 4 = .ok (.aload_n 0, 1) := by decide +kernel
theorem dX0_init_5 : decode cX0_init 5 = .ok (.iconst 3, 1) := by decide +kernel
theorem dX0_init_6 : decode cX0_init 6 = .ok (.newarray .int, 2) := by decide +kernel
theorem dX0_init_8 : decode cX0_init 8 = .ok (.putfield 9, 3) := by decide +kernel
theorem dX0_init_11 : decode cX0_init 11 = .ok (.aload_n 0, 1) := by decide +kernel
theorem dX0_init_12 : decode cX0_init 12 = .ok (.aload_n 1, 1) := by decide +kernel
theorem dX0_init_13 : decode cX0_init 13 = .ok (.putfield 15, 3) := by decide +kernel
theorem dX0_init_16 : decode cX0_init 16 = .ok (.aload_n 0, 1) := by decide +kernel
theorem dX0_init_17 : decode cX0_init 17 = .ok (.aload_n 2, 1) := by decide +kernel
theorem dX0_init_18 : decode cX0_init 18 = .ok (.putfield 19, 3) := by decide +kernel
theorem dX0_init_21 : decode cX0_init 21 = .ok (.return_, 1) := by decide +kernel
theorem dX0_readTape_0 : decode cX0_readTape 0 = .ok (.iconst 0, 1) := by decide +kernel
theorem dX0_readTape_1 : decode cX0_readTape 1 = .ok (.istore_n 1, 1) := by decide +kernel
theorem dX0_readTape_2 : decode cX0_readTape 2 = .ok (.iconst 0, 1) := by decide +kernel
theorem dX0_readTape_3 : decode cX0_readTape 3 = .ok (.istore_n 2, 1) := by decide +kernel
theorem dX0_readTape_4 : decode cX0_readTape 4 = .ok (.iconst 0, 1) := by decide +kernel
theorem dX0_readTape_5 : decode cX0_readTape 5 = .ok (.istore_n 3, 1) := by decide +kernel
theorem dX0_readTape_6 : decode cX0_readTape 6 = .ok (.iload_n 3, 1) := by decide +kernel
theorem dX0_readTape_7 : decode cX0_readTape 7 = .ok (.ifCond .eq 14, 3) := by decide +kernel
theorem dX0_readTape_10 : decode cX0_readTape 10 = .ok (.iload_n 3, 1) := by decide +kernel
theorem dX0_readTape_11 : decode cX0_readTape 11 = .ok (.aload_n 0, 1) := by decide +kernel
theorem dX0_readTape_12 : decode cX0_readTape 12 = .ok (.getfield 15, 3) := by decide +kernel
theorem dX0_readTape_15 : decode cX0_readTape 15 = .ok (.getfield 23, 3) := by decide +kernel
theorem dX0_readTape_18 : decode cX0_readTape 18 = .ok (.if_icmp .ge 151, 3) := by decide +kernel
theorem dX0_readTape_21 : decode cX0_readTape 21 = .ok (.iload_n 2, 1) := by decide +kernel
theorem dX0_readTape_22 : decode cX0_readTape 22 = .ok (.ifCond .eq 7, 3) := by decide +kernel
theorem dX0_readTape_25 : decode cX0_readTape 25 = .ok (.iconst (-1), 1) := by decide +kernel
theorem dX0_readTape_26 : decode cX0_readTape 26 = .ok (.iload_n 3, 1) := by decide +kernel
theorem dX0_readTape_27 : decode cX0_readTape 27 = .ok (.isub, 1) := by decide +kernel
theorem dX0_readTape_28 : decode cX0_readTape 28 = .ok (.ireturn, 1) := by decide +kernel
theorem dX0_readTape_29 : decode cX0_readTape 29 = .ok (.aload_n 0, 1) := by decide +kernel
theorem dX0_readTape_30 : decode cX0_readTape 30 = .ok (.iload_n 3, 1) := by decide +kernel
theorem dX0_readTape_31 : decode cX0_readTape 31 = .ok (.invokevirtual 29, 3) := by decide +kernel
theorem dX0_readTape_34 : decode cX0_readTape 34 = .ok (.ifCond .ne 10, 3) := by decide +kernel
theorem dX0_readTape_37 : decode cX0_readTape 37 = .ok (.iconst (-1), 1) := by decide +kernel
theorem dX0_readTape_38 : decode cX0_readTape 38 = .ok (.aload_n 0, 1) := by decide +kernel
theorem dX0_readTape_39 : decode cX0_readTape 39 = .ok (.getfield 33, 3) := by decide +kernel
theorem dX0_readTape_42 : decode cX0_readTape 42 = .ok (.isub, 1) := by decide +kernel
theorem dX0_readTape_43 : decode cX0_readTape 43 = .ok (.ireturn, 1) := by decide +kernel
theorem dX0_readTape_44 : decode cX0_readTape 44 = .ok (.aload_n 0, 1) := by decide +kernel
theorem dX0_readTape_45 : decode cX0_readTape 45 = .ok (.getfield 9, 3) := by decide +kernel
theorem dX0_readTape_48 : decode cX0_readTape 48 = .ok (.iconst 0, 1) := by decide +kernel
theorem dX0_readTape_49 : decode cX0_readTape 49 = .ok (.iaload, 1) := by decide +kernel
theorem dX0_readTape_50 : decode cX0_readTape 50 = .ok (.ifCond .ne 26, 3) := by decide +kernel
theorem dX0_readTape_53 : decode cX0_readTape 53 = .ok (.aload_n 0, 1) := by decide +kernel
theorem dX0_readTape_54 : decode cX0_readTape 54 = .ok (.getfield 9, 3) := by decide +kernel
theorem dX0_readTape_57 : decode cX0_readTape 57 = .ok (.iconst 1, 1) := by decide +kernel
theorem dX0_readTape_58 : decode cX0_readTape 58 = .ok (.iaload, 1) := by decide +kernel
theorem dX0_readTape_59 : decode cX0_readTape 59 = .ok (.ifCond .ne 17, 3) := by decide +kernel
theorem dX0_readTape_62 : decode cX0_readTape 62 = .ok (.aload_n 0, 1) := by decide +kernel
theorem dX0_readTape_63 : decode cX0_readTape 63 = .ok (.getfield 9, 3) := by decide +kernel
theorem dX0_readTape_66 : decode cX0_readTape 66 = .ok (.iconst 2, 1) := by decide +kernel
theorem dX0_readTape_67 : decode cX0_readTape 67 = .ok (.iaload, 1) := by decide +kernel
theorem dX0_readTape_68 : decode cX0_readTape 68 = .ok (.ifCond .ne 8, 3) := by decide +kernel
theorem dX0_readTape_71 : decode cX0_readTape 71 = .ok (.iconst 1, 1) := by decide +kernel
theorem dX0_readTape_72 : decode cX0_readTape 72 = .ok (.istore_n 2, 1) := by decide +kernel
theorem dX0_readTape_73 : decode cX0_readTape 73 = .ok (.goto 53, 3) := by decide +kernel
theorem dX0_readTape_76 : decode cX0_readTape 76 = .ok (.aload_n 0, 1) := by decide +kernel
theorem dX0_readTape_77 : decode cX0_readTape 77 = .ok (.getfield 19, 3) := by decide +kernel
theorem dX0_readTape_80 : decode cX0_readTape 80 = .ok (.iload_n 1, 1) := by decide +kernel
theorem dX0_readTape_81 : decode cX0_readTape 81 = .ok (.aload_n 0, 1) := by decide +kernel
theorem dX0_readTape_82 : decode cX0_readTape 82 = .ok (.getfield 9, 3) := by decide +kernel
theorem dX0_readTape_85 : decode cX0_readTape 85 = .ok (.iconst 0, 1) := by decide +kernel
theorem dX0_readTape_86 : decode cX0_readTape 86 = .ok (.iaload, 1) := by decide +kernel
theorem dX0_readTape_87 : decode cX0_readTape 87 = .ok (.aload_n 0, 1) := by decide +kernel
theorem dX0_readTape_88 : decode cX0_readTape 88 = .ok (.getfield 9, 3) := by decide +kernel
theorem dX0_readTape_91 : decode cX0_readTape 91 = .ok (.iconst 1, 1) := by decide +kernel
theorem dX0_readTape_92 : decode cX0_readTape 92 = .ok (.iaload, 1) := by decide +kernel
theorem dX0_readTape_93 : decode cX0_readTape 93 = .ok (.aload_n 0, 1) := by decide +kernel
theorem dX0_readTape_94 : decode cX0_readTape 94 = .ok (.getfield 9, 3) := by decide +kernel
theorem dX0_readTape_97 : decode cX0_readTape 97 = .ok (.iconst 2, 1) := by decide +kernel
theorem dX0_readTape_98 : decode cX0_readTape 98 = .ok (.iaload, 1) := by decide +kernel
theorem dX0_readTape_99 : decode cX0_readTape 99 = .ok (.invokestatic 36, 3) := by decide +kernel
theorem dX0_readTape_102 : decode cX0_readTape 102 = .ok (.aload_n 0, 1) := by decide +kernel
theorem dX0_readTape_103 : decode cX0_readTape 103 = .ok (.getfield 42, 3) := by decide +kernel
theorem dX0_readTape_106 : decode cX0_readTape 106 = .ok (.aload_n 0, 1) := by decide +kernel
theorem dX0_readTape_107 : decode cX0_readTape 107 = .ok (.getfield 45, 3) := by decide +kernel
theorem dX0_readTape_110 : decode cX0_readTape 110 = .ok (.invokevirtual 48, 3) := by decide +kernel
theorem dX0_readTape_113 : decode cX0_readTape 113 = .ok (.ifCond .eq 9, 3) := by decide +kernel
theorem dX0_readTape_116 : decode cX0_readTape 116 = .ok (.iinc 1 1, 3) := by decide +kernel
theorem dX0_readTape_119 : decode cX0_readTape 119 = .ok (.goto 7, 3) := by decide +kernel
theorem dX0_readTape_122 : decode cX0_readTape 122 = .ok (.iconst (-1), 1) := by decide +kernel
theorem dX0_readTape_123 : decode cX0_readTape 123 = .ok (.iload_n 3, 1) := by decide +kernel
theorem dX0_readTape_124 : decode cX0_readTape 124 = .ok (.isub, 1) := by decide +kernel
theorem dX0_readTape_125 : decode cX0_readTape 125 = .ok (.ireturn, 1) := by decide +kernel
theorem dX0_readTape_126 : decode cX0_readTape 126 = .ok (.iload_n 3, 1) := by decide +kernel
theorem dX0_readTape_127 : decode cX0_readTape 127 = .ok (.bipush 28, 2) := by decide +kernel
theorem dX0_readTape_129 : decode cX0_readTape 129 = .ok (.iadd, 1) := by decide +kernel
theorem dX0_readTape_130 : decode cX0_readTape 130 = .ok (.istore 4, 2) := by decide +kernel
theorem dX0_readTape_132 : decode cX0_readTape 132 = .ok (.iload 4, 2) := by decide +kernel
theorem dX0_readTape_134 : decode cX0_readTape 134 = .ok (.aload_n 0, 1) := by decide +kernel
theorem dX0_readTape_135 : decode cX0_readTape 135 = .ok (.getfield 15, 3) := by decide +kernel
theorem dX0_readTape_138 : decode cX0_readTape 138 = .ok (.getfield 23, 3) := by decide +kernel
theorem dX0_readTape_141 : decode cX0_readTape 141 = .ok (.if_icmp .ge 22, 3) := by decide +kernel
theorem dX0_readTape_144 : decode cX0_readTape 144 = .ok (.aload_n 0, 1) := by decide +kernel
theorem dX0_readTape_145 : decode cX0_readTape 145 = .ok (.getfield 15, 3) := by decide +kernel
theorem dX0_readTape_148 : decode cX0_readTape 148 = .ok (.iload 4, 2) := by decide +kernel
theorem dX0_readTape_150 : decode cX0_readTape 150 = .ok (.invokevirtual 54, 3) := by decide +kernel
theorem dX0_readTape_153 : decode cX0_readTape 153 = .ok (.bipush 10, 2) := by decide +kernel
theorem dX0_readTape_155 : decode cX0_readTape 155 = .ok (.if_icmp .eq 8, 3) := by decide +kernel
theorem dX0_readTape_158 : decode cX0_readTape 158 = .ok (.iconst (-1), 1) := by decide +kernel
theorem dX0_readTape_159 : decode cX0_readTape 159 = .ok (.iload 4, 2) := by decide +kernel
theorem dX0_readTape_161 : decode cX0_readTape 161 = .ok (.isub, 1) := by decide +kernel
theorem dX0_readTape_162 : decode cX0_readTape 162 = .ok (.ireturn, 1) := by decide +kernel
theorem dX0_readTape_163 : decode cX0_readTape 163 = .ok (.iinc 3 29, 3) := by decide +kernel
theorem dX0_readTape_166 : decode cX0_readTape 166 = .ok (.goto (-160), 3) := by decide +kernel
theorem dX0_readTape_169 : decode cX0_readTape 169 = .ok (.aload_n 0, 1) := by decide +kernel
theorem dX0_readTape_170 : decode cX0_readTape 170 = .ok (.getfield 19, 3) := by decide +kernel
theorem dX0_readTape_173 : decode cX0_readTape 173 = .ok (.dup, 1) := by decide +kernel
theorem dX0_readTape_174 : decode cX0_readTape 174 = .ok (.getfield 58, 3) := by decide +kernel
theorem dX0_readTape_177 : decode cX0_readTape 177 = .ok (.iload_n 1, 1) := by decide +kernel
theorem dX0_readTape_178 : decode cX0_readTape 178 = .ok (.iadd, 1) := by decide +kernel
theorem dX0_readTape_179 : decode cX0_readTape 179 = .ok (.putfield 58, 3) := by decide +kernel
theorem dX0_readTape_182 : decode cX0_readTape 182 = .ok (.iload_n 1, 1) := by decide +kernel
theorem dX0_readTape_183 : decode cX0_readTape 183 = .ok (.ireturn, 1) := by decide +kernel
theorem dX0_readRow_0 : decode cX0_readRow 0 = .ok (.iconst 0, 1) := by decide +kernel
theorem dX0_readRow_1 : decode cX0_readRow 1 = .ok (.istore_n 2, 1) := by decide +kernel
theorem dX0_readRow_2 : decode cX0_readRow 2 = .ok (.iload_n 2, 1) := by decide +kernel
theorem dX0_readRow_3 : decode cX0_readRow 3 = .ok (.iconst 3, 1) := by decide +kernel
theorem dX0_readRow_4 : decode cX0_readRow 4 = .ok (.if_icmp .ge 33, 3) := by decide +kernel
theorem dX0_readRow_7 : decode cX0_readRow 7 = .ok (.aload_n 0, 1) := by decide +kernel
theorem dX0_readRow_8 : decode cX0_readRow 8 = .ok (.iload_n 1, 1) := by decide +kernel
theorem dX0_readRow_9 : decode cX0_readRow 9 = .ok (.iload_n 2, 1) := by decide +kernel
theorem dX0_readRow_10 : decode cX0_readRow 10 = .ok (.iconst 4, 1) := by decide +kernel
theorem dX0_readRow_11 : decode cX0_readRow 11 = .ok (.imul, 1) := by decide +kernel
theorem dX0_readRow_12 : decode cX0_readRow 12 = .ok (.iadd, 1) := by decide +kernel
theorem dX0_readRow_13 : decode cX0_readRow 13 = .ok (.invokevirtual 61, 3) := by decide +kernel
theorem dX0_readRow_16 : decode cX0_readRow 16 = .ok (.ifCond .ne 5, 3) := by decide +kernel
theorem dX0_readRow_19 : decode cX0_readRow 19 = .ok (.iconst 0, 1) := by decide +kernel
theorem dX0_readRow_20 : decode cX0_readRow 20 = .ok (.ireturn, 1) := by decide +kernel
theorem dX0_readRow_21 : decode cX0_readRow 21 = .ok (.aload_n 0, 1) := by decide +kernel
theorem dX0_readRow_22 : decode cX0_readRow 22 = .ok (.getfield 9, 3) := by decide +kernel
theorem dX0_readRow_25 : decode cX0_readRow 25 = .ok (.iload_n 2, 1) := by decide +kernel
theorem dX0_readRow_26 : decode cX0_readRow 26 = .ok (.aload_n 0, 1) := by decide +kernel
theorem dX0_readRow_27 : decode cX0_readRow 27 = .ok (.invokevirtual 64, 3) := by decide +kernel
theorem dX0_readRow_30 : decode cX0_readRow 30 = .ok (.iastore, 1) := by decide +kernel
theorem dX0_readRow_31 : decode cX0_readRow 31 = .ok (.iinc 2 1, 3) := by decide +kernel
theorem dX0_readRow_34 : decode cX0_readRow 34 = .ok (.goto (-32), 3) := by decide +kernel
theorem dX0_readRow_37 : decode cX0_readRow 37 = .ok (.aload_n 0, 1) := by decide +kernel
theorem dX0_readRow_38 : decode cX0_readRow 38 = .ok (.iload_n 1, 1) := by decide +kernel
theorem dX0_readRow_39 : decode cX0_readRow 39 = .ok (.bipush 12, 2) := by decide +kernel
theorem dX0_readRow_41 : decode cX0_readRow 41 = .ok (.iadd, 1) := by decide +kernel
theorem dX0_readRow_42 : decode cX0_readRow 42 = .ok (.iconst 1, 1) := by decide +kernel
theorem dX0_readRow_43 : decode cX0_readRow 43 = .ok (.invokevirtual 68, 3) := by decide +kernel
theorem dX0_readRow_46 : decode cX0_readRow 46 = .ok (.ifCond .ne 5, 3) := by decide +kernel
theorem dX0_readRow_49 : decode cX0_readRow 49 = .ok (.iconst 0, 1) := by decide +kernel
theorem dX0_readRow_50 : decode cX0_readRow 50 = .ok (.ireturn, 1) := by decide +kernel
theorem dX0_readRow_51 : decode cX0_readRow 51 = .ok (.aload_n 0, 1) := by decide +kernel
theorem dX0_readRow_52 : decode cX0_readRow 52 = .ok (.aload_n 0, 1) := by decide +kernel
theorem dX0_readRow_53 : decode cX0_readRow 53 = .ok (.invokevirtual 64, 3) := by decide +kernel
theorem dX0_readRow_56 : decode cX0_readRow 56 = .ok (.putfield 42, 3) := by decide +kernel
theorem dX0_readRow_59 : decode cX0_readRow 59 = .ok (.aload_n 0, 1) := by decide +kernel
theorem dX0_readRow_60 : decode cX0_readRow 60 = .ok (.iload_n 1, 1) := by decide +kernel
theorem dX0_readRow_61 : decode cX0_readRow 61 = .ok (.bipush 20, 2) := by decide +kernel
theorem dX0_readRow_63 : decode cX0_readRow 63 = .ok (.iadd, 1) := by decide +kernel
theorem dX0_readRow_64 : decode cX0_readRow 64 = .ok (.iconst 0, 1) := by decide +kernel
theorem dX0_readRow_65 : decode cX0_readRow 65 = .ok (.invokevirtual 68, 3) := by decide +kernel
theorem dX0_readRow_68 : decode cX0_readRow 68 = .ok (.ifCond .ne 5, 3) := by decide +kernel
theorem dX0_readRow_71 : decode cX0_readRow 71 = .ok (.iconst 0, 1) := by decide +kernel
theorem dX0_readRow_72 : decode cX0_readRow 72 = .ok (.ireturn, 1) := by decide +kernel
theorem dX0_readRow_73 : decode cX0_readRow 73 = .ok (.aload_n 0, 1) := by decide +kernel
theorem dX0_readRow_74 : decode cX0_readRow 74 = .ok (.aload_n 0, 1) := by decide +kernel
theorem dX0_readRow_75 : decode cX0_readRow 75 = .ok (.invokevirtual 64, 3) := by decide +kernel
theorem dX0_readRow_78 : decode cX0_readRow 78 = .ok (.putfield 45, 3) := by decide +kernel
theorem dX0_readRow_81 : decode cX0_readRow 81 = .ok (.iconst 1, 1) := by decide +kernel
theorem dX0_readRow_82 : decode cX0_readRow 82 = .ok (.ireturn, 1) := by decide +kernel
theorem dX0_signed_0 : decode cX0_signed 0 = .ok (.aload_n 0, 1) := by decide +kernel
theorem dX0_signed_1 : decode cX0_signed 1 = .ok (.getfield 72, 3) := by decide +kernel
theorem dX0_signed_4 : decode cX0_signed 4 = .ok (.ifCond .eq 11, 3) := by decide +kernel
theorem dX0_signed_7 : decode cX0_signed 7 = .ok (.aload_n 0, 1) := by decide +kernel
theorem dX0_signed_8 : decode cX0_signed 8 = .ok (.getfield 76, 3) := by decide +kernel
theorem dX0_signed_11 : decode cX0_signed 11 = .ok (.ineg, 1) := by decide +kernel
theorem dX0_signed_12 : decode cX0_signed 12 = .ok (.goto 7, 3) := by decide +kernel
theorem dX0_signed_15 : decode cX0_signed 15 = .ok (.aload_n 0, 1) := by decide +kernel
theorem dX0_signed_16 : decode cX0_signed 16 = .ok (.getfield 76, 3) := by decide +kernel
theorem dX0_signed_19 : decode cX0_signed 19 = .ok (.ireturn, 1) := by decide +kernel
theorem dX0_readIndex_0 : decode cX0_readIndex 0 = .ok (.aload_n 0, 1) := by decide +kernel
theorem dX0_readIndex_1 : decode cX0_readIndex 1 = .ok (.iload_n 1, 1) := by decide +kernel
theorem dX0_readIndex_2 : decode cX0_readIndex 2 = .ok (.iconst 4, 1) := by decide +kernel
theorem dX0_readIndex_3 : decode cX0_readIndex 3 = .ok (.iconst 1, 1) := by decide +kernel
theorem dX0_readIndex_4 : decode cX0_readIndex 4 = .ok (.invokevirtual 79, 3) := by decide +kernel
theorem dX0_readIndex_7 : decode cX0_readIndex 7 = .ok (.ifCond .ne 5, 3) := by decide +kernel
theorem dX0_readIndex_10 : decode cX0_readIndex 10 = .ok (.iconst 0, 1) := by decide +kernel
theorem dX0_readIndex_11 : decode cX0_readIndex 11 = .ok (.ireturn, 1) := by decide +kernel
theorem dX0_readIndex_12 : decode cX0_readIndex 12 = .ok (.aload_n 0, 1) := by decide +kernel
theorem dX0_readIndex_13 : decode cX0_readIndex 13 = .ok (.getfield 76, 3) := by decide +kernel
theorem dX0_readIndex_16 : decode cX0_readIndex 16 = .ok (.bipush 127, 2) := by decide +kernel
theorem dX0_readIndex_18 : decode cX0_readIndex 18 = .ok (.if_icmp .le 15, 3) := by decide +kernel
theorem dX0_readIndex_21 : decode cX0_readIndex 21 = .ok (.aload_n 0, 1) := by decide +kernel
theorem dX0_readIndex_22 : decode cX0_readIndex 22 = .ok (.iload_n 1, 1) := by decide +kernel
theorem dX0_readIndex_23 : decode cX0_readIndex 23 = .ok (.iconst 4, 1) := by decide +kernel
theorem dX0_readIndex_24 : decode cX0_readIndex 24 = .ok (.iadd, 1) := by decide +kernel
theorem dX0_readIndex_25 : decode cX0_readIndex 25 = .ok (.iconst 1, 1) := by decide +kernel
theorem dX0_readIndex_26 : decode cX0_readIndex 26 = .ok (.isub, 1) := by decide +kernel
theorem dX0_readIndex_27 : decode cX0_readIndex 27 = .ok (.invokevirtual 83, 3) := by decide +kernel
theorem dX0_readIndex_30 : decode cX0_readIndex 30 = .ok (.ifCond .eq 7, 3) := by decide +kernel
theorem dX0_readIndex_33 : decode cX0_readIndex 33 = .ok (.iconst 1, 1) := by decide +kernel
theorem dX0_readIndex_34 : decode cX0_readIndex 34 = .ok (.goto 4, 3) := by decide +kernel
theorem dX0_readIndex_37 : decode cX0_readIndex 37 = .ok (.iconst 0, 1) := by decide +kernel
theorem dX0_readIndex_38 : decode cX0_readIndex 38 = .ok (.ireturn, 1) := by decide +kernel
theorem dX0_readHundredths_0 : decode cX0_readHundredths 0 = .ok (.aload_n 0, 1) := by decide +kernel
theorem dX0_readHundredths_1 : decode cX0_readHundredths 1 = .ok (.iload_n 1, 1) := by decide +kernel
theorem dX0_readHundredths_2 : decode cX0_readHundredths 2 = .ok (.iconst 5, 1) := by decide +kernel
theorem dX0_readHundredths_3 : decode cX0_readHundredths 3 = .ok (.iload_n 2, 1) := by decide +kernel
theorem dX0_readHundredths_4 : decode cX0_readHundredths 4 = .ok (.invokevirtual 79, 3) := by decide +kernel
theorem dX0_readHundredths_7 : decode cX0_readHundredths 7 = .ok (.ifCond .ne 5, 3) := by decide +kernel
theorem dX0_readHundredths_10 : decode cX0_readHundredths 10 = .ok (.iconst 0, 1) := by decide +kernel
theorem dX0_readHundredths_11 : decode cX0_readHundredths 11 = .ok (.ireturn, 1) := by decide +kernel
theorem dX0_readHundredths_12 : decode cX0_readHundredths 12 = .ok (.iload_n 1, 1) := by decide +kernel
theorem dX0_readHundredths_13 : decode cX0_readHundredths 13 = .ok (.iconst 5, 1) := by decide +kernel
theorem dX0_readHundredths_14 : decode cX0_readHundredths 14 = .ok (.iadd, 1) := by decide +kernel
theorem dX0_readHundredths_15 : decode cX0_readHundredths 15 = .ok (.istore_n 3, 1) := by decide +kernel
theorem dX0_readHundredths_16 : decode cX0_readHundredths 16 = .ok (.aload_n 0, 1) := by decide +kernel
theorem dX0_readHundredths_17 : decode cX0_readHundredths 17 = .ok (.getfield 15, 3) := by decide +kernel
theorem dX0_readHundredths_20 : decode cX0_readHundredths 20 = .ok (.iload_n 3, 1) := by decide +kernel
theorem dX0_readHundredths_21 : decode cX0_readHundredths 21 = .ok (.invokevirtual 54, 3) := by decide +kernel
theorem dX0_readHundredths_24 : decode cX0_readHundredths 24 = .ok (.bipush 46, 2) := by decide +kernel
theorem dX0_readHundredths_26 : decode cX0_readHundredths 26 = .ok (.if_icmp .eq 9, 3) := by decide +kernel
theorem dX0_readHundredths_29 : decode cX0_readHundredths 29 = .ok (.aload_n 0, 1) := by decide +kernel
theorem dX0_readHundredths_30 : decode cX0_readHundredths 30 = .ok (.iload_n 3, 1) := by decide +kernel
theorem dX0_readHundredths_31 : decode cX0_readHundredths 31 = .ok (.invokevirtual 83, 3) := by decide +kernel
theorem dX0_readHundredths_34 : decode cX0_readHundredths 34 = .ok (.ireturn, 1) := by decide +kernel
theorem dX0_readHundredths_35 : decode cX0_readHundredths 35 = .ok (.aload_n 0, 1) := by decide +kernel
theorem dX0_readHundredths_36 : decode cX0_readHundredths 36 = .ok (.iload_n 3, 1) := by decide +kernel
theorem dX0_readHundredths_37 : decode cX0_readHundredths 37 = .ok (.iconst 1, 1) := by decide +kernel
theorem dX0_readHundredths_38 : decode cX0_readHundredths 38 = .ok (.iadd, 1) := by decide +kernel
theorem dX0_readHundredths_39 : decode cX0_readHundredths 39 = .ok (.invokevirtual 86, 3) := by decide +kernel
theorem dX0_readHundredths_42 : decode cX0_readHundredths 42 = .ok (.ifCond .eq 17, 3) := by decide +kernel
theorem dX0_readHundredths_45 : decode cX0_readHundredths 45 = .ok (.aload_n 0, 1) := by decide +kernel
theorem dX0_readHundredths_46 : decode cX0_readHundredths 46 = .ok (.iload_n 3, 1) := by decide +kernel
theorem dX0_readHundredths_47 : decode cX0_readHundredths 47 = .ok (.iconst 2, 1) := by decide +kernel
theorem dX0_readHundredths_48 : decode cX0_readHundredths 48 = .ok (.iadd, 1) := by decide +kernel
theorem dX0_readHundredths_49 : decode cX0_readHundredths 49 = .ok (.invokevirtual 86, 3) := by decide +kernel
theorem dX0_readHundredths_52 : decode cX0_readHundredths 52 = .ok (.ifCond .eq 7, 3) := by decide +kernel
theorem dX0_readHundredths_55 : decode cX0_readHundredths 55 = .ok (.iconst 1, 1) := by decide +kernel
theorem dX0_readHundredths_56 : decode cX0_readHundredths 56 = .ok (.goto 4, 3) := by decide +kernel
theorem dX0_readHundredths_59 : decode cX0_readHundredths 59 = .ok (.iconst 0, 1) := by decide +kernel
theorem dX0_readHundredths_60 : decode cX0_readHundredths 60 = .ok (.ireturn, 1) := by decide +kernel
theorem dX0_addDigit_0 : decode cX0_addDigit 0 = .ok (.aload_n 0, 1) := by decide +kernel
theorem dX0_addDigit_1 : decode cX0_addDigit 1 = .ok (.getfield 15, 3) := by decide +kernel
theorem dX0_addDigit_4 : decode cX0_addDigit 4 = .ok (.iload_n 1, 1) := by decide +kernel
theorem dX0_addDigit_5 : decode cX0_addDigit 5 = .ok (.invokevirtual 54, 3) := by decide +kernel
theorem dX0_addDigit_8 : decode cX0_addDigit 8 = .ok (.istore_n 2, 1) := by decide +kernel
theorem dX0_addDigit_9 : decode cX0_addDigit 9 = .ok (.iload_n 2, 1) := by decide +kernel
theorem dX0_addDigit_10 : decode cX0_addDigit 10 = .ok (.invokestatic 89, 3) := by decide +kernel
theorem dX0_addDigit_13 : decode cX0_addDigit 13 = .ok (.ifCond .ne 9, 3) := by decide +kernel
theorem dX0_addDigit_16 : decode cX0_addDigit 16 = .ok (.aload_n 0, 1) := by decide +kernel
theorem dX0_addDigit_17 : decode cX0_addDigit 17 = .ok (.iload_n 1, 1) := by decide +kernel
theorem dX0_addDigit_18 : decode cX0_addDigit 18 = .ok (.invokevirtual 83, 3) := by decide +kernel
theorem dX0_addDigit_21 : decode cX0_addDigit 21 = .ok (.ireturn, 1) := by decide +kernel
theorem dX0_addDigit_22 : decode cX0_addDigit 22 = .ok (.aload_n 0, 1) := by decide +kernel
theorem dX0_addDigit_23 : decode cX0_addDigit 23 = .ok (.aload_n 0, 1) := by decide +kernel
theorem dX0_addDigit_24 : decode cX0_addDigit 24 = .ok (.getfield 76, 3) := by decide +kernel
theorem dX0_addDigit_27 : decode cX0_addDigit 27 = .ok (.bipush 10, 2) := by decide +kernel
theorem dX0_addDigit_29 : decode cX0_addDigit 29 = .ok (.imul, 1) := by decide +kernel
theorem dX0_addDigit_30 : decode cX0_addDigit 30 = .ok (.iload_n 2, 1) := by decide +kernel
theorem dX0_addDigit_31 : decode cX0_addDigit 31 = .ok (.iadd, 1) := by decide +kernel
theorem dX0_addDigit_32 : decode cX0_addDigit 32 = .ok (.bipush 48, 2) := by decide +kernel
theorem dX0_addDigit_34 : decode cX0_addDigit 34 = .ok (.isub, 1) := by decide +kernel
theorem dX0_addDigit_35 : decode cX0_addDigit 35 = .ok (.putfield 76, 3) := by decide +kernel
theorem dX0_addDigit_38 : decode cX0_addDigit 38 = .ok (.iconst 1, 1) := by decide +kernel
theorem dX0_addDigit_39 : decode cX0_addDigit 39 = .ok (.ireturn, 1) := by decide +kernel
theorem dX0_readWhole_0 : decode cX0_readWhole 0 = .ok (.iconst 0, 1) := by decide +kernel
theorem dX0_readWhole_1 : decode cX0_readWhole 1 = .ok (.istore 4, 2) := by decide +kernel
theorem dX0_readWhole_3 : decode cX0_readWhole 3 = .ok (.aload_n 0, 1) := by decide +kernel
theorem dX0_readWhole_4 : decode cX0_readWhole 4 = .ok (.iconst 0, 1) := by decide +kernel
theorem dX0_readWhole_5 : decode cX0_readWhole 5 = .ok (.putfield 76, 3) := by decide +kernel
theorem dX0_readWhole_8 : decode cX0_readWhole 8 = .ok (.aload_n 0, 1) := by decide +kernel
theorem dX0_readWhole_9 : decode cX0_readWhole 9 = .ok (.iconst 0, 1) := by decide +kernel
theorem dX0_readWhole_10 : decode cX0_readWhole 10 = .ok (.putfield 72, 3) := by decide +kernel
theorem dX0_readWhole_13 : decode cX0_readWhole 13 = .ok (.iload_n 1, 1) := by decide +kernel
theorem dX0_readWhole_14 : decode cX0_readWhole 14 = .ok (.istore 5, 2) := by decide +kernel
theorem dX0_readWhole_16 : decode cX0_readWhole 16 = .ok (.iload 5, 2) := by decide +kernel
theorem dX0_readWhole_18 : decode cX0_readWhole 18 = .ok (.iload_n 1, 1) := by decide +kernel
theorem dX0_readWhole_19 : decode cX0_readWhole 19 = .ok (.iload_n 2, 1) := by decide +kernel
theorem dX0_readWhole_20 : decode cX0_readWhole 20 = .ok (.iadd, 1) := by decide +kernel
theorem dX0_readWhole_21 : decode cX0_readWhole 21 = .ok (.if_icmp .ge 95, 3) := by decide +kernel
theorem dX0_readWhole_24 : decode cX0_readWhole 24 = .ok (.aload_n 0, 1) := by decide +kernel
theorem dX0_readWhole_25 : decode cX0_readWhole 25 = .ok (.getfield 15, 3) := by decide +kernel
theorem dX0_readWhole_28 : decode cX0_readWhole 28 = .ok (.iload 5, 2) := by decide +kernel
theorem dX0_readWhole_30 : decode cX0_readWhole 30 = .ok (.invokevirtual 54, 3) := by decide +kernel
theorem dX0_readWhole_33 : decode cX0_readWhole 33 = .ok (.istore 6, 2) := by decide +kernel
theorem dX0_readWhole_35 : decode cX0_readWhole 35 = .ok (.iload 4, 2) := by decide +kernel
theorem dX0_readWhole_37 : decode cX0_readWhole 37 = .ok (.ifCond .ne 17, 3) := by decide +kernel
theorem dX0_readWhole_40 : decode cX0_readWhole 40 = .ok (.iload 5, 2) := by decide +kernel
theorem dX0_readWhole_42 : decode cX0_readWhole 42 = .ok (.iload_n 1, 1) := by decide +kernel
theorem dX0_readWhole_43 : decode cX0_readWhole 43 = .ok (.iload_n 2, 1) := by decide +kernel
theorem dX0_readWhole_44 : decode cX0_readWhole 44 = .ok (.iadd, 1) := by decide +kernel
theorem dX0_readWhole_45 : decode cX0_readWhole 45 = .ok (.iconst 1, 1) := by decide +kernel
theorem dX0_readWhole_46 : decode cX0_readWhole 46 = .ok (.isub, 1) := by decide +kernel
theorem dX0_readWhole_47 : decode cX0_readWhole 47 = .ok (.if_icmp .ge 7, 3) := by decide +kernel
theorem dX0_readWhole_50 : decode cX0_readWhole 50 = .ok (.iconst 1, 1) := by decide +kernel
theorem dX0_readWhole_51 : decode cX0_readWhole 51 = .ok (.goto 4, 3) := by decide +kernel
theorem dX0_readWhole_54 : decode cX0_readWhole 54 = .ok (.iconst 0, 1) := by decide +kernel
theorem dX0_readWhole_55 : decode cX0_readWhole 55 = .ok (.istore 7, 2) := by decide +kernel
theorem dX0_readWhole_57 : decode cX0_readWhole 57 = .ok (.iload 6, 2) := by decide +kernel
theorem dX0_readWhole_59 : decode cX0_readWhole 59 = .ok (.bipush 32, 2) := by decide +kernel
theorem dX0_readWhole_61 : decode cX0_readWhole 61 = .ok (.if_icmp .ne 11, 3) := by decide +kernel
theorem dX0_readWhole_64 : decode cX0_readWhole 64 = .ok (.iload 7, 2) := by decide +kernel
theorem dX0_readWhole_66 : decode cX0_readWhole 66 = .ok (.ifCond .eq 6, 3) := by decide +kernel
theorem dX0_readWhole_69 : decode cX0_readWhole 69 = .ok (.goto 41, 3) := by decide +kernel
theorem dX0_readWhole_72 : decode cX0_readWhole 72 = .ok (.iconst 1, 1) := by decide +kernel
theorem dX0_readWhole_73 : decode cX0_readWhole 73 = .ok (.istore 4, 2) := by decide +kernel
theorem dX0_readWhole_75 : decode cX0_readWhole 75 = .ok (.iload 6, 2) := by decide +kernel
theorem dX0_readWhole_77 : decode cX0_readWhole 77 = .ok (.bipush 45, 2) := by decide +kernel
theorem dX0_readWhole_79 : decode cX0_readWhole 79 = .ok (.if_icmp .ne 20, 3) := by decide +kernel
theorem dX0_readWhole_82 : decode cX0_readWhole 82 = .ok (.iload 7, 2) := by decide +kernel
theorem dX0_readWhole_84 : decode cX0_readWhole 84 = .ok (.ifCond .eq 15, 3) := by decide +kernel
theorem dX0_readWhole_87 : decode cX0_readWhole 87 = .ok (.iload_n 3, 1) := by decide +kernel
theorem dX0_readWhole_88 : decode cX0_readWhole 88 = .ok (.ifCond .eq 11, 3) := by decide +kernel
theorem dX0_readWhole_91 : decode cX0_readWhole 91 = .ok (.aload_n 0, 1) := by decide +kernel
theorem dX0_readWhole_92 : decode cX0_readWhole 92 = .ok (.iconst 1, 1) := by decide +kernel
theorem dX0_readWhole_93 : decode cX0_readWhole 93 = .ok (.putfield 72, 3) := by decide +kernel
theorem dX0_readWhole_96 : decode cX0_readWhole 96 = .ok (.goto 14, 3) := by decide +kernel
theorem dX0_readWhole_99 : decode cX0_readWhole 99 = .ok (.aload_n 0, 1) := by decide +kernel
theorem dX0_readWhole_100 : decode cX0_readWhole 100 = .ok (.iload 5, 2) := by decide +kernel
theorem dX0_readWhole_102 : decode cX0_readWhole 102 = .ok (.invokevirtual 86, 3) := by decide +kernel
theorem dX0_readWhole_105 : decode cX0_readWhole 105 = .ok (.ifCond .ne 5, 3) := by decide +kernel
theorem dX0_readWhole_108 : decode cX0_readWhole 108 = .ok (.iconst 0, 1) := by decide +kernel
theorem dX0_readWhole_109 : decode cX0_readWhole 109 = .ok (.ireturn, 1) := by decide +kernel
theorem dX0_readWhole_110 : decode cX0_readWhole 110 = .ok (.iinc 5 1, 3) := by decide +kernel
theorem dX0_readWhole_113 : decode cX0_readWhole 113 = .ok (.goto (-97), 3) := by decide +kernel
theorem dX0_readWhole_116 : decode cX0_readWhole 116 = .ok (.iconst 1, 1) := by decide +kernel
theorem dX0_readWhole_117 : decode cX0_readWhole 117 = .ok (.ireturn, 1) := by decide +kernel
theorem dX0_isDigit_0 : decode cX0_isDigit 0 = .ok (.iload_n 0, 1) := by decide +kernel
theorem dX0_isDigit_1 : decode cX0_isDigit 1 = .ok (.bipush 48, 2) := by decide +kernel
theorem dX0_isDigit_3 : decode cX0_isDigit 3 = .ok (.if_icmp .lt 13, 3) := by decide +kernel
theorem dX0_isDigit_6 : decode cX0_isDigit 6 = .ok (.iload_n 0, 1) := by decide +kernel
theorem dX0_isDigit_7 : decode cX0_isDigit 7 = .ok (.bipush 57, 2) := by decide +kernel
theorem dX0_isDigit_9 : decode cX0_isDigit 9 = .ok (.if_icmp .gt 7, 3) := by decide +kernel
theorem dX0_isDigit_12 : decode cX0_isDigit 12 = .ok (.iconst 1, 1) := by decide +kernel
theorem dX0_isDigit_13 : decode cX0_isDigit 13 = .ok (.goto 4, 3) := by decide +kernel
theorem dX0_isDigit_16 : decode cX0_isDigit 16 = .ok (.iconst 0, 1) := by decide +kernel
theorem dX0_isDigit_17 : decode cX0_isDigit 17 = .ok (.ireturn, 1) := by decide +kernel
theorem dX0_failAt_0 : decode cX0_failAt 0 = .ok (.aload_n 0, 1) := by decide +kernel
theorem dX0_failAt_1 : decode cX0_failAt 1 = .ok (.iload_n 1, 1) := by decide +kernel
theorem dX0_failAt_2 : decode cX0_failAt 2 = .ok (.putfield 33, 3) := by decide +kernel
theorem dX0_failAt_5 : decode cX0_failAt 5 = .ok (.iconst 0, 1) := by decide +kernel
theorem dX0_failAt_6 : decode cX0_failAt 6 = .ok (.ireturn, 1) := by decide +kernel
theorem dX1_init_0 : decode cX1_init 0 = .ok (.aload_n 0, 1) := by decide +kernel
theorem dX1_init_1 : decode cX1_init 1 = .ok (.invokespecial 5, 3) := by decide +kernel
theorem dX1_init_4 : decode cX1_init 4 = .ok (.aload_n 0, 1) := by decide +kernel
theorem dX1_init_5 : decode cX1_init 5 = .ok (.sipush 192, 3) := by decide +kernel
theorem dX1_init_8 : decode cX1_init 8 = .ok (.newarray .int, 2) := by decide +kernel
theorem dX1_init_10 : decode cX1_init 10 = .ok (.putfield 11, 3) := by decide +kernel
theorem dX1_init_13 : decode cX1_init 13 = .ok (.aload_n 0, 1) := by decide +kernel
theorem dX1_init_14 : decode cX1_init 14 = .ok (.sipush 2304, 3) := by decide +kernel
theorem dX1_init_17 : decode cX1_init 17 = .ok (.newarray .int, 2) := by decide +kernel
theorem dX1_init_19 : decode cX1_init 19 = .ok (.putfield 15, 3) := by decide +kernel
theorem dX1_init_22 : decode cX1_init 22 = .ok (.aload_n 0, 1) := by decide +kernel
theorem dX1_init_23 : decode cX1_init 23 = .ok (.sipush 2304, 3) := by decide +kernel
theorem dX1_init_26 : decode cX1_init 26 = .ok (.newarray .int, 2) := by decide +kernel
theorem dX1_init_28 : decode cX1_init 28 = .ok (.putfield 18, 3) := by decide +kernel
theorem dX1_init_31 : decode cX1_init 31 = .ok (.aload_n 0, 1) := by decide +kernel
theorem dX1_init_32 : decode cX1_init 32 = .ok (.sipush 192, 3) := by decide +kernel
theorem dX1_init_35 : decode cX1_init 35 = .ok (.newarray .int, 2) := by decide +kernel
theorem dX1_init_37 : decode cX1_init 37 = .ok (.putfield 21, 3) := by decide +kernel
theorem dX1_init_40 : decode cX1_init 40 = .ok (.return_, 1) := by decide +kernel
theorem dX1_unpack_0 : decode cX1_unpack 0 = .ok (.aload_n 1, 1) := by decide +kernel
theorem dX1_unpack_1 : decode cX1_unpack 1 = .ok (.ifnull 16, 3) := by decide +kernel
theorem dX1_unpack_4 : decode cX1_unpack 4 = .ok (.iload_n 2, 1) := by decide +kernel
theorem dX1_unpack_5 : decode cX1_unpack 5 = .ok (.ifCond .lt 12, 3) := by decide +kernel
theorem dX1_unpack_8 : decode cX1_unpack 8 = .ok (.iload_n 2, 1) := by decide +kernel
theorem dX1_unpack_9 : decode cX1_unpack 9 = .ok (.aload_n 1, 1) := by decide +kernel
theorem dX1_unpack_10 : decode cX1_unpack 10 = .ok (.arraylength, 1) := by decide +kernel
theorem dX1_unpack_11 : decode cX1_unpack 11 = .ok (.bipush 12, 2) := by decide +kernel
theorem dX1_unpack_13 : decode cX1_unpack 13 = .ok (.isub, 1) := by decide +kernel
theorem dX1_unpack_14 : decode cX1_unpack 14 = .ok (.if_icmp .le 4, 3) := by decide +kernel
theorem dX1_unpack_17 : decode cX1_unpack 17 = .ok (.return_, 1) := by decide +kernel
theorem dX1_unpack_18 : decode cX1_unpack 18 = .ok (.iconst 0, 1) := by decide +kernel
theorem dX1_unpack_19 : decode cX1_unpack 19 = .ok (.istore_n 3, 1) := by decide +kernel
theorem dX1_unpack_20 : decode cX1_unpack 20 = .ok (.iload_n 3, 1) := by decide +kernel
theorem dX1_unpack_21 : decode cX1_unpack 21 = .ok (.bipush 9, 2) := by decide +kernel
theorem dX1_unpack_23 : decode cX1_unpack 23 = .ok (.if_icmp .ge 29, 3) := by decide +kernel
theorem dX1_unpack_26 : decode cX1_unpack 26 = .ok (.aload_n 1, 1) := by decide +kernel
theorem dX1_unpack_27 : decode cX1_unpack 27 = .ok (.iload_n 2, 1) := by decide +kernel
theorem dX1_unpack_28 : decode cX1_unpack 28 = .ok (.iload_n 3, 1) := by decide +kernel
theorem dX1_unpack_29 : decode cX1_unpack 29 = .ok (.iadd, 1) := by decide +kernel
theorem dX1_unpack_30 : decode cX1_unpack 30 = .ok (.iload_n 0, 1) := by decide +kernel
theorem dX1_unpack_31 : decode cX1_unpack 31 = .ok (.bipush 12, 2) := by decide +kernel
theorem dX1_unpack_33 : decode cX1_unpack 33 = .ok (.iconst 2, 1) := by decide +kernel
theorem dX1_unpack_34 : decode cX1_unpack 34 = .ok (.bipush 8, 2) := by decide +kernel
theorem dX1_unpack_36 : decode cX1_unpack 36 = .ok (.iload_n 3, 1) := by decide +kernel
theorem dX1_unpack_37 : decode cX1_unpack 37 = .ok (.isub, 1) := by decide +kernel
theorem dX1_unpack_38 : decode cX1_unpack 38 = .ok (.imul, 1) := by decide +kernel
theorem dX1_unpack_39 : decode cX1_unpack 39 = .ok (.iadd, 1) := by decide +kernel
theorem dX1_unpack_40 : decode cX1_unpack 40 = .ok (.ishr, 1) := by decide +kernel
theorem dX1_unpack_41 : decode cX1_unpack 41 = .ok (.iconst 3, 1) := by decide +kernel
theorem dX1_unpack_42 : decode cX1_unpack 42 = .ok (.iand, 1) := by decide +kernel
theorem dX1_unpack_43 : decode cX1_unpack 43 = .ok (.iconst 1, 1) := by decide +kernel
theorem dX1_unpack_44 : decode cX1_unpack 44 = .ok (.isub, 1) := by decide +kernel
theorem dX1_unpack_45 : decode cX1_unpack 45 = .ok (.iastore, 1) := by decide +kernel
theorem dX1_unpack_46 : decode cX1_unpack 46 = .ok (.iinc 3 1, 3) := by decide +kernel
theorem dX1_unpack_49 : decode cX1_unpack 49 = .ok (.goto (-29), 3) := by decide +kernel
theorem dX1_unpack_52 : decode cX1_unpack 52 = .ok (.iconst 0, 1) := by decide +kernel
theorem dX1_unpack_53 : decode cX1_unpack 53 = .ok (.istore_n 3, 1) := by decide +kernel
theorem dX1_unpack_54 : decode cX1_unpack 54 = .ok (.iload_n 3, 1) := by decide +kernel
theorem dX1_unpack_55 : decode cX1_unpack 55 = .ok (.iconst 3, 1) := by decide +kernel
theorem dX1_unpack_56 : decode cX1_unpack 56 = .ok (.if_icmp .ge 27, 3) := by decide +kernel
theorem dX1_unpack_59 : decode cX1_unpack 59 = .ok (.aload_n 1, 1) := by decide +kernel
theorem dX1_unpack_60 : decode cX1_unpack 60 = .ok (.iload_n 2, 1) := by decide +kernel
theorem dX1_unpack_61 : decode cX1_unpack 61 = .ok (.bipush 9, 2) := by decide +kernel
theorem dX1_unpack_63 : decode cX1_unpack 63 = .ok (.iadd, 1) := by decide +kernel
theorem dX1_unpack_64 : decode cX1_unpack 64 = .ok (.iload_n 3, 1) := by decide +kernel
theorem dX1_unpack_65 : decode cX1_unpack 65 = .ok (.iadd, 1) := by decide +kernel
theorem dX1_unpack_66 : decode cX1_unpack 66 = .ok (.iload_n 0, 1) := by decide +kernel
theorem dX1_unpack_67 : decode cX1_unpack 67 = .ok (.iconst 4, 1) := by decide +kernel
theorem dX1_unpack_68 : decode cX1_unpack 68 = .ok (.iconst 2, 1) := by decide +kernel
theorem dX1_unpack_69 : decode cX1_unpack 69 = .ok (.iload_n 3, 1) := by decide +kernel
theorem dX1_unpack_70 : decode cX1_unpack 70 = .ok (.isub, 1) := by decide +kernel
theorem dX1_unpack_71 : decode cX1_unpack 71 = .ok (.imul, 1) := by decide +kernel
theorem dX1_unpack_72 : decode cX1_unpack 72 = .ok (.ishr, 1) := by decide +kernel
theorem dX1_unpack_73 : decode cX1_unpack 73 = .ok (.bipush 15, 2) := by decide +kernel
theorem dX1_unpack_75 : decode cX1_unpack 75 = .ok (.iand, 1) := by decide +kernel
theorem dX1_unpack_76 : decode cX1_unpack 76 = .ok (.iastore, 1) := by decide +kernel
theorem dX1_unpack_77 : decode cX1_unpack 77 = .ok (.iinc 3 1, 3) := by decide +kernel
theorem dX1_unpack_80 : decode cX1_unpack 80 = .ok (.goto (-26), 3) := by decide +kernel
theorem dX1_unpack_83 : decode cX1_unpack 83 = .ok (.return_, 1) := by decide +kernel
theorem dX1_become_0 : decode cX1_become 0 = .ok (.aload_n 0, 1) := by decide +kernel
theorem dX1_become_1 : decode cX1_become 1 = .ok (.aload_n 1, 1) := by decide +kernel
theorem dX1_become_2 : decode cX1_become 2 = .ok (.getfield 24, 3) := by decide +kernel
theorem dX1_become_5 : decode cX1_become 5 = .ok (.putfield 30, 3) := by decide +kernel
theorem dX1_become_8 : decode cX1_become 8 = .ok (.aload_n 0, 1) := by decide +kernel
theorem dX1_become_9 : decode cX1_become 9 = .ok (.iconst 0, 1) := by decide +kernel
theorem dX1_become_10 : decode cX1_become 10 = .ok (.putfield 33, 3) := by decide +kernel
theorem dX1_become_13 : decode cX1_become 13 = .ok (.iconst 0, 1) := by decide +kernel
theorem dX1_become_14 : decode cX1_become 14 = .ok (.istore_n 2, 1) := by decide +kernel
theorem dX1_become_15 : decode cX1_become 15 = .ok (.iload_n 2, 1) := by decide +kernel
theorem dX1_become_16 : decode cX1_become 16 = .ok (.aload_n 0, 1) := by decide +kernel
theorem dX1_become_17 : decode cX1_become 17 = .ok (.getfield 30, 3) := by decide +kernel
theorem dX1_become_20 : decode cX1_become 20 = .ok (.if_icmp .ge 88, 3) := by decide +kernel
theorem dX1_become_23 : decode cX1_become 23 = .ok (.aload_n 0, 1) := by decide +kernel
theorem dX1_become_24 : decode cX1_become 24 = .ok (.getfield 11, 3) := by decide +kernel
theorem dX1_become_27 : decode cX1_become 27 = .ok (.iload_n 2, 1) := by decide +kernel
theorem dX1_become_28 : decode cX1_become 28 = .ok (.aload_n 1, 1) := by decide +kernel
theorem dX1_become_29 : decode cX1_become 29 = .ok (.getfield 36, 3) := by decide +kernel
theorem dX1_become_32 : decode cX1_become 32 = .ok (.iload_n 2, 1) := by decide +kernel
theorem dX1_become_33 : decode cX1_become 33 = .ok (.iaload, 1) := by decide +kernel
theorem dX1_become_34 : decode cX1_become 34 = .ok (.iastore, 1) := by decide +kernel
theorem dX1_become_35 : decode cX1_become 35 = .ok (.aload_n 0, 1) := by decide +kernel
theorem dX1_become_36 : decode cX1_become 36 = .ok (.getfield 11, 3) := by decide +kernel
theorem dX1_become_39 : decode cX1_become 39 = .ok (.iload_n 2, 1) := by decide +kernel
theorem dX1_become_40 : decode cX1_become 40 = .ok (.iaload, 1) := by decide +kernel
theorem dX1_become_41 : decode cX1_become 41 = .ok (.aload_n 0, 1) := by decide +kernel
theorem dX1_become_42 : decode cX1_become 42 = .ok (.getfield 15, 3) := by decide +kernel
theorem dX1_become_45 : decode cX1_become 45 = .ok (.iload_n 2, 1) := by decide +kernel
theorem dX1_become_46 : decode cX1_become 46 = .ok (.bipush 12, 2) := by decide +kernel
theorem dX1_become_48 : decode cX1_become 48 = .ok (.imul, 1) := by decide +kernel
theorem dX1_become_49 : decode cX1_become 49 = .ok (.invokestatic 39, 3) := by decide +kernel
theorem dX1_become_52 : decode cX1_become 52 = .ok (.iload_n 2, 1) := by decide +kernel
theorem dX1_become_53 : decode cX1_become 53 = .ok (.ifCond .eq 18, 3) := by decide +kernel
theorem dX1_become_56 : decode cX1_become 56 = .ok (.aload_n 0, 1) := by decide +kernel
theorem dX1_become_57 : decode cX1_become 57 = .ok (.iload_n 2, 1) := by decide +kernel
theorem dX1_become_58 : decode cX1_become 58 = .ok (.invokevirtual 43, 3) := by decide +kernel
theorem dX1_become_61 : decode cX1_become 61 = .ok (.aload_n 0, 1) := by decide +kernel
theorem dX1_become_62 : decode cX1_become 62 = .ok (.iload_n 2, 1) := by decide +kernel
theorem dX1_become_63 : decode cX1_become 63 = .ok (.iconst 1, 1) := by decide +kernel
theorem dX1_become_64 : decode cX1_become 64 = .ok (.isub, 1) := by decide +kernel
theorem dX1_become_65 : decode cX1_become 65 = .ok (.invokevirtual 43, 3) := by decide +kernel
theorem dX1_become_68 : decode cX1_become 68 = .ok (.if_icmp .eq 34, 3) := by decide +kernel
theorem dX1_become_71 : decode cX1_become 71 = .ok (.aload_n 0, 1) := by decide +kernel
theorem dX1_become_72 : decode cX1_become 72 = .ok (.aload_n 0, 1) := by decide +kernel
theorem dX1_become_73 : decode cX1_become 73 = .ok (.iload_n 2, 1) := by decide +kernel
theorem dX1_become_74 : decode cX1_become 74 = .ok (.bipush 12, 2) := by decide +kernel
theorem dX1_become_76 : decode cX1_become 76 = .ok (.imul, 1) := by decide +kernel
theorem dX1_become_77 : decode cX1_become 77 = .ok (.invokevirtual 47, 3) := by decide +kernel
theorem dX1_become_80 : decode cX1_become 80 = .ok (.ifCond .ge 14, 3) := by decide +kernel
theorem dX1_become_83 : decode cX1_become 83 = .ok (.ldc 50, 2) := by decide +kernel
theorem dX1_become_85 : decode cX1_become 85 = .ok (.aload_n 0, 1) := by decide +kernel
theorem dX1_become_86 : decode cX1_become 86 = .ok (.iload_n 2, 1) := by decide +kernel
theorem dX1_become_87 : decode cX1_become 87 = .ok (.invokevirtual 43, 3) := by decide +kernel
theorem dX1_become_90 : decode cX1_become 90 = .ok (.isub, 1) := by decide +kernel
theorem dX1_become_91 : decode cX1_become 91 = .ok (.goto 8, 3) := by decide +kernel
theorem dX1_become_94 : decode cX1_become 94 = .ok (.aload_n 0, 1) := by decide +kernel
theorem dX1_become_95 : decode cX1_become 95 = .ok (.iload_n 2, 1) := by decide +kernel
theorem dX1_become_96 : decode cX1_become 96 = .ok (.invokevirtual 43, 3) := by decide +kernel
theorem dX1_become_99 : decode cX1_become 99 = .ok (.invokevirtual 51, 3) := by decide +kernel
theorem dX1_become_102 : decode cX1_become 102 = .ok (.iinc 2 1, 3) := by decide +kernel
theorem dX1_become_105 : decode cX1_become 105 = .ok (.goto (-90), 3) := by decide +kernel
theorem dX1_become_108 : decode cX1_become 108 = .ok (.return_, 1) := by decide +kernel
theorem dX1_rotationKey_0 : decode cX1_rotationKey 0 = .ok (.aload_n 0, 1) := by decide +kernel
theorem dX1_rotationKey_1 : decode cX1_rotationKey 1 = .ok (.getfield 11, 3) := by decide +kernel
theorem dX1_rotationKey_4 : decode cX1_rotationKey 4 = .ok (.iload_n 1, 1) := by decide +kernel
theorem dX1_rotationKey_5 : decode cX1_rotationKey 5 = .ok (.iaload, 1) := by decide +kernel
theorem dX1_rotationKey_6 : decode cX1_rotationKey 6 = .ok (.bipush 12, 2) := by decide +kernel
theorem dX1_rotationKey_8 : decode cX1_rotationKey 8 = .ok (.ishr, 1) := by decide +kernel
theorem dX1_rotationKey_9 : decode cX1_rotationKey 9 = .ok (.ireturn, 1) := by decide +kernel
theorem dX1_determinant_0 : decode cX1_determinant 0 = .ok (.aload_n 0, 1) := by decide +kernel
theorem dX1_determinant_1 : decode cX1_determinant 1 = .ok (.getfield 15, 3) := by decide +kernel
theorem dX1_determinant_4 : decode cX1_determinant 4 = .ok (.iload_n 1, 1) := by decide +kernel
theorem dX1_determinant_5 : decode cX1_determinant 5 = .ok (.iaload, 1) := by decide +kernel
theorem dX1_determinant_6 : decode cX1_determinant 6 = .ok (.aload_n 0, 1) := by decide +kernel
theorem dX1_determinant_7 : decode cX1_determinant 7 = .ok (.getfield 15, 3) := by decide +kernel
theorem dX1_determinant_10 : decode cX1_determinant 10 = .ok (.iload_n 1, 1) := by decide +kernel
theorem dX1_determinant_11 : decode cX1_determinant 11 = .ok (.iconst 4, 1) := by decide +kernel
theorem dX1_determinant_12 : decode cX1_determinant 12 = .ok (.iadd, 1) := by decide +kernel
theorem dX1_determinant_13 : decode cX1_determinant 13 = .ok (.iaload, 1) := by decide +kernel
theorem dX1_determinant_14 : decode cX1_determinant 14 = .ok (.aload_n 0, 1) := by decide +kernel
theorem dX1_determinant_15 : decode cX1_determinant 15 = .ok (.getfield 15, 3) := by decide +kernel
theorem dX1_determinant_18 : decode cX1_determinant 18 = .ok (.iload_n 1, 1) := by decide +kernel
theorem dX1_determinant_19 : decode cX1_determinant 19 = .ok (.bipush 8, 2) := by decide +kernel
theorem dX1_determinant_21 : decode cX1_determinant 21 = .ok (.iadd, 1) := by decide +kernel
theorem dX1_determinant_22 : decode cX1_determinant 22 = .ok (.iaload, 1) := by decide +kernel
theorem dX1_determinant_23 : decode cX1_determinant 23 = .ok (.imul, 1) := by decide +kernel
theorem dX1_determinant_24 : decode cX1_determinant 24 = .ok (.aload_n 0, 1) := by decide +kernel
theorem dX1_determinant_25 : decode cX1_determinant 25 = .ok (.getfield 15, 3) := by decide +kernel
theorem dX1_determinant_28 : decode cX1_determinant 28 = .ok (.iload_n 1, 1) := by decide +kernel
theorem dX1_determinant_29 : decode cX1_determinant 29 = .ok (.iconst 5, 1) := by decide +kernel
theorem dX1_determinant_30 : decode cX1_determinant 30 = .ok (.iadd, 1) := by decide +kernel
theorem dX1_determinant_31 : decode cX1_determinant 31 = .ok (.iaload, 1) := by decide +kernel
theorem dX1_determinant_32 : decode cX1_determinant 32 = .ok (.aload_n 0, 1) := by decide +kernel
theorem dX1_determinant_33 : decode cX1_determinant 33 = .ok (.getfield 15, 3) := by decide +kernel
theorem dX1_determinant_36 : decode cX1_determinant 36 = .ok (.iload_n 1, 1) := by decide +kernel
theorem dX1_determinant_37 : decode cX1_determinant 37 = .ok (.bipush 7, 2) := by decide +kernel
theorem dX1_determinant_39 : decode cX1_determinant 39 = .ok (.iadd, 1) := by decide +kernel
theorem dX1_determinant_40 : decode cX1_determinant 40 = .ok (.iaload, 1) := by decide +kernel
theorem dX1_determinant_41 : decode cX1_determinant 41 = .ok (.imul, 1) := by decide +kernel
theorem dX1_determinant_42 : decode cX1_determinant 42 = .ok (.isub, 1) := by decide +kernel
theorem dX1_determinant_43 : decode cX1_determinant 43 = .ok (.imul, 1) := by decide +kernel
theorem dX1_determinant_44 : decode cX1_determinant 44 = .ok (.aload_n 0, 1) := by decide +kernel
theorem dX1_determinant_45 : decode cX1_determinant 45 = .ok (.getfield 15, 3) := by decide +kernel
theorem dX1_determinant_48 : decode cX1_determinant 48 = .ok (.iload_n 1, 1) := by decide +kernel
theorem dX1_determinant_49 : decode cX1_determinant 49 = .ok (.iconst 1, 1) := by decide +kernel
theorem dX1_determinant_50 : decode cX1_determinant 50 = .ok (.iadd, 1) := by decide +kernel
theorem dX1_determinant_51 : decode cX1_determinant 51 = .ok (.iaload, 1) := by decide +kernel
theorem dX1_determinant_52 : decode cX1_determinant 52 = .ok (.aload_n 0, 1) := by decide +kernel
theorem dX1_determinant_53 : decode cX1_determinant 53 = .ok (.getfield 15, 3) := by decide +kernel
theorem dX1_determinant_56 : decode cX1_determinant 56 = .ok (.iload_n 1, 1) := by decide +kernel
theorem dX1_determinant_57 : decode cX1_determinant 57 = .ok (.iconst 3, 1) := by decide +kernel
theorem dX1_determinant_58 : decode cX1_determinant 58 = .ok (.iadd, 1) := by decide +kernel
theorem dX1_determinant_59 : decode cX1_determinant 59 = .ok (.iaload, 1) := by decide +kernel
theorem dX1_determinant_60 : decode cX1_determinant 60 = .ok (.aload_n 0, 1) := by decide +kernel
theorem dX1_determinant_61 : decode cX1_determinant 61 = .ok (.getfield 15, 3) := by decide +kernel
theorem dX1_determinant_64 : decode cX1_determinant 64 = .ok (.iload_n 1, 1) := by decide +kernel
theorem dX1_determinant_65 : decode cX1_determinant 65 = .ok (.bipush 8, 2) := by decide +kernel
theorem dX1_determinant_67 : decode cX1_determinant 67 = .ok (.iadd, 1) := by decide +kernel
theorem dX1_determinant_68 : decode cX1_determinant 68 = .ok (.iaload, 1) := by decide +kernel
theorem dX1_determinant_69 : decode cX1_determinant 69 = .ok (.imul, 1) := by decide +kernel
theorem dX1_determinant_70 : decode cX1_determinant 70 = .ok (.aload_n 0, 1) := by decide +kernel
theorem dX1_determinant_71 : decode cX1_determinant 71 = .ok (.getfield 15, 3) := by decide +kernel
theorem dX1_determinant_74 : decode cX1_determinant 74 = .ok (.iload_n 1, 1) := by decide +kernel
theorem dX1_determinant_75 : decode cX1_determinant 75 = .ok (.iconst 5, 1) := by decide +kernel
theorem dX1_determinant_76 : decode cX1_determinant 76 = .ok (.iadd, 1) := by decide +kernel
theorem dX1_determinant_77 : decode cX1_determinant 77 = .ok (.iaload, 1) := by decide +kernel
theorem dX1_determinant_78 : decode cX1_determinant 78 = .ok (.aload_n 0, 1) := by decide +kernel
theorem dX1_determinant_79 : decode cX1_determinant 79 = .ok (.getfield 15, 3) := by decide +kernel
theorem dX1_determinant_82 : decode cX1_determinant 82 = .ok (.iload_n 1, 1) := by decide +kernel
theorem dX1_determinant_83 : decode cX1_determinant 83 = .ok (.bipush 6, 2) := by decide +kernel
theorem dX1_determinant_85 : decode cX1_determinant 85 = .ok (.iadd, 1) := by decide +kernel
theorem dX1_determinant_86 : decode cX1_determinant 86 = .ok (.iaload, 1) := by decide +kernel
theorem dX1_determinant_87 : decode cX1_determinant 87 = .ok (.imul, 1) := by decide +kernel
theorem dX1_determinant_88 : decode cX1_determinant 88 = .ok (.isub, 1) := by decide +kernel
theorem dX1_determinant_89 : decode cX1_determinant 89 = .ok (.imul, 1) := by decide +kernel
theorem dX1_determinant_90 : decode cX1_determinant 90 = .ok (.isub, 1) := by decide +kernel
theorem dX1_determinant_91 : decode cX1_determinant 91 = .ok (.aload_n 0, 1) := by decide +kernel
theorem dX1_determinant_92 : decode cX1_determinant 92 = .ok (.getfield 15, 3) := by decide +kernel
theorem dX1_determinant_95 : decode cX1_determinant 95 = .ok (.iload_n 1, 1) := by decide +kernel
theorem dX1_determinant_96 : decode cX1_determinant 96 = .ok (.iconst 2, 1) := by decide +kernel
theorem dX1_determinant_97 : decode cX1_determinant 97 = .ok (.iadd, 1) := by decide +kernel
theorem dX1_determinant_98 : decode cX1_determinant 98 = .ok (.iaload, 1) := by decide +kernel
theorem dX1_determinant_99 : decode cX1_determinant 99 = .ok (.aload_n 0, 1) := by decide +kernel
theorem dX1_determinant_100 : decode cX1_determinant 100 = .ok (.getfield 15, 3) := by decide +kernel
theorem dX1_determinant_103 : decode cX1_determinant 103 = .ok (.iload_n 1, 1) := by decide +kernel
theorem dX1_determinant_104 : decode cX1_determinant 104 = .ok (.iconst 3, 1) := by decide +kernel
theorem dX1_determinant_105 : decode cX1_determinant 105 = .ok (.iadd, 1) := by decide +kernel
theorem dX1_determinant_106 : decode cX1_determinant 106 = .ok (.iaload, 1) := by decide +kernel
theorem dX1_determinant_107 : decode cX1_determinant 107 = .ok (.aload_n 0, 1) := by decide +kernel
theorem dX1_determinant_108 : decode cX1_determinant 108 = .ok (.getfield 15, 3) := by decide +kernel
theorem dX1_determinant_111 : decode cX1_determinant 111 = .ok (.iload_n 1, 1) := by decide +kernel
theorem dX1_determinant_112 : decode cX1_determinant 112 = .ok (.bipush 7, 2) := by decide +kernel
theorem dX1_determinant_114 : decode cX1_determinant 114 = .ok (.iadd, 1) := by decide +kernel
theorem dX1_determinant_115 : decode cX1_determinant 115 = .ok (.iaload, 1) := by decide +kernel
theorem dX1_determinant_116 : decode cX1_determinant 116 = .ok (.imul, 1) := by decide +kernel
theorem dX1_determinant_117 : decode cX1_determinant 117 = .ok (.aload_n 0, 1) := by decide +kernel
theorem dX1_determinant_118 : decode cX1_determinant 118 = .ok (.getfield 15, 3) := by decide +kernel
theorem dX1_determinant_121 : decode cX1_determinant 121 = .ok (.iload_n 1, 1) := by decide +kernel
theorem dX1_determinant_122 : decode cX1_determinant 122 = .ok (.iconst 4, 1) := by decide +kernel
theorem dX1_determinant_123 : decode cX1_determinant 123 = .ok (.iadd, 1) := by decide +kernel
theorem dX1_determinant_124 : decode cX1_determinant 124 = .ok (.iaload, 1) := by decide +kernel
theorem dX1_determinant_125 : decode cX1_determinant 125 = .ok (.aload_n 0, 1) := by decide +kernel
theorem dX1_determinant_126 : decode cX1_determinant 126 = .ok (.getfield 15, 3) := by decide +kernel
theorem dX1_determinant_129 : decode cX1_determinant 129 = .ok (.iload_n 1, 1) := by decide +kernel
theorem dX1_determinant_130 : decode cX1_determinant 130 = .ok (.bipush 6, 2) := by decide +kernel
theorem dX1_determinant_132 : decode cX1_determinant 132 = .ok (.iadd, 1) := by decide +kernel
theorem dX1_determinant_133 : decode cX1_determinant 133 = .ok (.iaload, 1) := by decide +kernel
theorem dX1_determinant_134 : decode cX1_determinant 134 = .ok (.imul, 1) := by decide +kernel
theorem dX1_determinant_135 : decode cX1_determinant 135 = .ok (.isub, 1) := by decide +kernel
theorem dX1_determinant_136 : decode cX1_determinant 136 = .ok (.imul, 1) := by decide +kernel
theorem dX1_determinant_137 : decode cX1_determinant 137 = .ok (.iadd, 1) := by decide +kernel
theorem dX1_determinant_138 : decode cX1_determinant 138 = .ok (.ireturn, 1) := by decide +kernel
theorem dX1_keepTurn_0 : decode cX1_keepTurn 0 = .ok (.iconst 0, 1) := by decide +kernel
theorem dX1_keepTurn_1 : decode cX1_keepTurn 1 = .ok (.istore_n 2, 1) := by decide +kernel
theorem dX1_keepTurn_2 : decode cX1_keepTurn 2 = .ok (.iload_n 2, 1) := by decide +kernel
theorem dX1_keepTurn_3 : decode cX1_keepTurn 3 = .ok (.aload_n 0, 1) := by decide +kernel
theorem dX1_keepTurn_4 : decode cX1_keepTurn 4 = .ok (.getfield 33, 3) := by decide +kernel
theorem dX1_keepTurn_7 : decode cX1_keepTurn 7 = .ok (.if_icmp .ge 20, 3) := by decide +kernel
theorem dX1_keepTurn_10 : decode cX1_keepTurn 10 = .ok (.aload_n 0, 1) := by decide +kernel
theorem dX1_keepTurn_11 : decode cX1_keepTurn 11 = .ok (.getfield 21, 3) := by decide +kernel
theorem dX1_keepTurn_14 : decode cX1_keepTurn 14 = .ok (.iload_n 2, 1) := by decide +kernel
theorem dX1_keepTurn_15 : decode cX1_keepTurn 15 = .ok (.iaload, 1) := by decide +kernel
theorem dX1_keepTurn_16 : decode cX1_keepTurn 16 = .ok (.iload_n 1, 1) := by decide +kernel
theorem dX1_keepTurn_17 : decode cX1_keepTurn 17 = .ok (.if_icmp .ne 4, 3) := by decide +kernel
theorem dX1_keepTurn_20 : decode cX1_keepTurn 20 = .ok (.return_, 1) := by decide +kernel
theorem dX1_keepTurn_21 : decode cX1_keepTurn 21 = .ok (.iinc 2 1, 3) := by decide +kernel
theorem dX1_keepTurn_24 : decode cX1_keepTurn 24 = .ok (.goto (-22), 3) := by decide +kernel
theorem dX1_keepTurn_27 : decode cX1_keepTurn 27 = .ok (.aload_n 0, 1) := by decide +kernel
theorem dX1_keepTurn_28 : decode cX1_keepTurn 28 = .ok (.getfield 33, 3) := by decide +kernel
theorem dX1_keepTurn_31 : decode cX1_keepTurn 31 = .ok (.sipush 192, 3) := by decide +kernel
theorem dX1_keepTurn_34 : decode cX1_keepTurn 34 = .ok (.if_icmp .ge 41, 3) := by decide +kernel
theorem dX1_keepTurn_37 : decode cX1_keepTurn 37 = .ok (.aload_n 0, 1) := by decide +kernel
theorem dX1_keepTurn_38 : decode cX1_keepTurn 38 = .ok (.getfield 21, 3) := by decide +kernel
theorem dX1_keepTurn_41 : decode cX1_keepTurn 41 = .ok (.aload_n 0, 1) := by decide +kernel
theorem dX1_keepTurn_42 : decode cX1_keepTurn 42 = .ok (.getfield 33, 3) := by decide +kernel
theorem dX1_keepTurn_45 : decode cX1_keepTurn 45 = .ok (.iload_n 1, 1) := by decide +kernel
theorem dX1_keepTurn_46 : decode cX1_keepTurn 46 = .ok (.iastore, 1) := by decide +kernel
theorem dX1_keepTurn_47 : decode cX1_keepTurn 47 = .ok (.iload_n 1, 1) := by decide +kernel
theorem dX1_keepTurn_48 : decode cX1_keepTurn 48 = .ok (.bipush 12, 2) := by decide +kernel
theorem dX1_keepTurn_50 : decode cX1_keepTurn 50 = .ok (.ishl, 1) := by decide +kernel
theorem dX1_keepTurn_51 : decode cX1_keepTurn 51 = .ok (.aload_n 0, 1) := by decide +kernel
theorem dX1_keepTurn_52 : decode cX1_keepTurn 52 = .ok (.getfield 18, 3) := by decide +kernel
theorem dX1_keepTurn_55 : decode cX1_keepTurn 55 = .ok (.aload_n 0, 1) := by decide +kernel
theorem dX1_keepTurn_56 : decode cX1_keepTurn 56 = .ok (.getfield 33, 3) := by decide +kernel
theorem dX1_keepTurn_59 : decode cX1_keepTurn 59 = .ok (.bipush 12, 2) := by decide +kernel
theorem dX1_keepTurn_61 : decode cX1_keepTurn 61 = .ok (.imul, 1) := by decide +kernel
theorem dX1_keepTurn_62 : decode cX1_keepTurn 62 = .ok (.invokestatic 39, 3) := by decide +kernel
theorem dX1_keepTurn_65 : decode cX1_keepTurn 65 = .ok (.aload_n 0, 1) := by decide +kernel
theorem dX1_keepTurn_66 : decode cX1_keepTurn 66 = .ok (.dup, 1) := by decide +kernel
theorem dX1_keepTurn_67 : decode cX1_keepTurn 67 = .ok (.getfield 33, 3) := by decide +kernel
theorem dX1_keepTurn_70 : decode cX1_keepTurn 70 = .ok (.iconst 1, 1) := by decide +kernel
theorem dX1_keepTurn_71 : decode cX1_keepTurn 71 = .ok (.iadd, 1) := by decide +kernel
theorem dX1_keepTurn_72 : decode cX1_keepTurn 72 = .ok (.putfield 33, 3) := by decide +kernel
theorem dX1_keepTurn_75 : decode cX1_keepTurn 75 = .ok (.return_, 1) := by decide +kernel
theorem dX1_has_0 : decode cX1_has 0 = .ok (.iload_n 1, 1) := by decide +kernel
theorem dX1_has_1 : decode cX1_has 1 = .ok (.ifCond .lt 15, 3) := by decide +kernel
theorem dX1_has_4 : decode cX1_has 4 = .ok (.iload_n 1, 1) := by decide +kernel
theorem dX1_has_5 : decode cX1_has 5 = .ok (.aload_n 0, 1) := by decide +kernel
theorem dX1_has_6 : decode cX1_has 6 = .ok (.getfield 30, 3) := by decide +kernel
theorem dX1_has_9 : decode cX1_has 9 = .ok (.if_icmp .ge 7, 3) := by decide +kernel
theorem dX1_has_12 : decode cX1_has 12 = .ok (.iconst 1, 1) := by decide +kernel
theorem dX1_has_13 : decode cX1_has 13 = .ok (.goto 4, 3) := by decide +kernel
theorem dX1_has_16 : decode cX1_has 16 = .ok (.iconst 0, 1) := by decide +kernel
theorem dX1_has_17 : decode cX1_has 17 = .ok (.ireturn, 1) := by decide +kernel
theorem dX1_number_0 : decode cX1_number 0 = .ok (.aload_n 0, 1) := by decide +kernel
theorem dX1_number_1 : decode cX1_number 1 = .ok (.getfield 15, 3) := by decide +kernel
theorem dX1_number_4 : decode cX1_number 4 = .ok (.iload_n 1, 1) := by decide +kernel
theorem dX1_number_5 : decode cX1_number 5 = .ok (.bipush 12, 2) := by decide +kernel
theorem dX1_number_7 : decode cX1_number 7 = .ok (.imul, 1) := by decide +kernel
theorem dX1_number_8 : decode cX1_number 8 = .ok (.iload_n 2, 1) := by decide +kernel
theorem dX1_number_9 : decode cX1_number 9 = .ok (.iadd, 1) := by decide +kernel
theorem dX1_number_10 : decode cX1_number 10 = .ok (.iaload, 1) := by decide +kernel
theorem dX1_number_11 : decode cX1_number 11 = .ok (.ireturn, 1) := by decide +kernel
theorem dX1_laueClass_0 : decode cX1_laueClass 0 = .ok (.aload_n 0, 1) := by decide +kernel
theorem dX1_laueClass_1 : decode cX1_laueClass 1 = .ok (.getfield 33, 3) := by decide +kernel
theorem dX1_laueClass_4 : decode cX1_laueClass 4 = .ok (.tableswitch 169 1 24 #[112, 114, 116, 118, 169, 132, 169, 148, 169, 169, 169, 150, 169, 169, 169, 169, 169, 169, 169, 169, 169, 169, 169, 166], 112) := by decide +kernel
theorem dX1_laueClass_116 : decode cX1_laueClass 116 = .ok (.iconst 0, 1) := by decide +kernel
theorem dX1_laueClass_117 : decode cX1_laueClass 117 = .ok (.ireturn, 1) := by decide +kernel
theorem dX1_laueClass_118 : decode cX1_laueClass 118 = .ok (.iconst 1, 1) := by decide +kernel
theorem dX1_laueClass_119 : decode cX1_laueClass 119 = .ok (.ireturn, 1) := by decide +kernel
theorem dX1_laueClass_120 : decode cX1_laueClass 120 = .ok (.iconst 5, 1) := by decide +kernel
theorem dX1_laueClass_121 : decode cX1_laueClass 121 = .ok (.ireturn, 1) := by decide +kernel
theorem dX1_laueClass_122 : decode cX1_laueClass 122 = .ok (.aload_n 0, 1) := by decide +kernel
theorem dX1_laueClass_123 : decode cX1_laueClass 123 = .ok (.iconst 1, 1) := by decide +kernel
theorem dX1_laueClass_124 : decode cX1_laueClass 124 = .ok (.invokevirtual 55, 3) := by decide +kernel
theorem dX1_laueClass_127 : decode cX1_laueClass 127 = .ok (.ifCond .eq 7, 3) := by decide +kernel
theorem dX1_laueClass_130 : decode cX1_laueClass 130 = .ok (.iconst 3, 1) := by decide +kernel
theorem dX1_laueClass_131 : decode cX1_laueClass 131 = .ok (.goto 4, 3) := by decide +kernel
theorem dX1_laueClass_134 : decode cX1_laueClass 134 = .ok (.iconst 2, 1) := by decide +kernel
theorem dX1_laueClass_135 : decode cX1_laueClass 135 = .ok (.ireturn, 1) := by decide +kernel
theorem dX1_laueClass_136 : decode cX1_laueClass 136 = .ok (.aload_n 0, 1) := by decide +kernel
theorem dX1_laueClass_137 : decode cX1_laueClass 137 = .ok (.iconst 2, 1) := by decide +kernel
theorem dX1_laueClass_138 : decode cX1_laueClass 138 = .ok (.invokevirtual 55, 3) := by decide +kernel
theorem dX1_laueClass_141 : decode cX1_laueClass 141 = .ok (.ifCond .eq 8, 3) := by decide +kernel
theorem dX1_laueClass_144 : decode cX1_laueClass 144 = .ok (.bipush 7, 2) := by decide +kernel
theorem dX1_laueClass_146 : decode cX1_laueClass 146 = .ok (.goto 5, 3) := by decide +kernel
theorem dX1_laueClass_149 : decode cX1_laueClass 149 = .ok (.bipush 6, 2) := by decide +kernel
theorem dX1_laueClass_151 : decode cX1_laueClass 151 = .ok (.ireturn, 1) := by decide +kernel
theorem dX1_laueClass_152 : decode cX1_laueClass 152 = .ok (.iconst 4, 1) := by decide +kernel
theorem dX1_laueClass_153 : decode cX1_laueClass 153 = .ok (.ireturn, 1) := by decide +kernel
theorem dX1_laueClass_154 : decode cX1_laueClass 154 = .ok (.aload_n 0, 1) := by decide +kernel
theorem dX1_laueClass_155 : decode cX1_laueClass 155 = .ok (.iconst 2, 1) := by decide +kernel
theorem dX1_laueClass_156 : decode cX1_laueClass 156 = .ok (.invokevirtual 55, 3) := by decide +kernel
theorem dX1_laueClass_159 : decode cX1_laueClass 159 = .ok (.ifCond .eq 8, 3) := by decide +kernel
theorem dX1_laueClass_162 : decode cX1_laueClass 162 = .ok (.bipush 8, 2) := by decide +kernel
theorem dX1_laueClass_164 : decode cX1_laueClass 164 = .ok (.goto 5, 3) := by decide +kernel
theorem dX1_laueClass_167 : decode cX1_laueClass 167 = .ok (.bipush 9, 2) := by decide +kernel
theorem dX1_laueClass_169 : decode cX1_laueClass 169 = .ok (.ireturn, 1) := by decide +kernel
theorem dX1_laueClass_170 : decode cX1_laueClass 170 = .ok (.bipush 10, 2) := by decide +kernel
theorem dX1_laueClass_172 : decode cX1_laueClass 172 = .ok (.ireturn, 1) := by decide +kernel
theorem dX1_laueClass_173 : decode cX1_laueClass 173 = .ok (.iconst (-1), 1) := by decide +kernel
theorem dX1_laueClass_174 : decode cX1_laueClass 174 = .ok (.ireturn, 1) := by decide +kernel
theorem dX1_hasTurnOfTrace_0 : decode cX1_hasTurnOfTrace 0 = .ok (.iconst 0, 1) := by decide +kernel
theorem dX1_hasTurnOfTrace_1 : decode cX1_hasTurnOfTrace 1 = .ok (.istore_n 2, 1) := by decide +kernel
theorem dX1_hasTurnOfTrace_2 : decode cX1_hasTurnOfTrace 2 = .ok (.iload_n 2, 1) := by decide +kernel
theorem dX1_hasTurnOfTrace_3 : decode cX1_hasTurnOfTrace 3 = .ok (.aload_n 0, 1) := by decide +kernel
theorem dX1_hasTurnOfTrace_4 : decode cX1_hasTurnOfTrace 4 = .ok (.getfield 33, 3) := by decide +kernel
theorem dX1_hasTurnOfTrace_7 : decode cX1_hasTurnOfTrace 7 = .ok (.if_icmp .ge 45, 3) := by decide +kernel
theorem dX1_hasTurnOfTrace_10 : decode cX1_hasTurnOfTrace 10 = .ok (.iload_n 2, 1) := by decide +kernel
theorem dX1_hasTurnOfTrace_11 : decode cX1_hasTurnOfTrace 11 = .ok (.bipush 12, 2) := by decide +kernel
theorem dX1_hasTurnOfTrace_13 : decode cX1_hasTurnOfTrace 13 = .ok (.imul, 1) := by decide +kernel
theorem dX1_hasTurnOfTrace_14 : decode cX1_hasTurnOfTrace 14 = .ok (.istore_n 3, 1) := by decide +kernel
theorem dX1_hasTurnOfTrace_15 : decode cX1_hasTurnOfTrace 15 = .ok (.aload_n 0, 1) := by decide +kernel
theorem dX1_hasTurnOfTrace_16 : decode cX1_hasTurnOfTrace 16 = .ok (.getfield 18, 3) := by decide +kernel
theorem dX1_hasTurnOfTrace_19 : decode cX1_hasTurnOfTrace 19 = .ok (.iload_n 3, 1) := by decide +kernel
theorem dX1_hasTurnOfTrace_20 : decode cX1_hasTurnOfTrace 20 = .ok (.iaload, 1) := by decide +kernel
theorem dX1_hasTurnOfTrace_21 : decode cX1_hasTurnOfTrace 21 = .ok (.aload_n 0, 1) := by decide +kernel
theorem dX1_hasTurnOfTrace_22 : decode cX1_hasTurnOfTrace 22 = .ok (.getfield 18, 3) := by decide +kernel
theorem dX1_hasTurnOfTrace_25 : decode cX1_hasTurnOfTrace 25 = .ok (.iload_n 3, 1) := by decide +kernel
theorem dX1_hasTurnOfTrace_26 : decode cX1_hasTurnOfTrace 26 = .ok (.iconst 4, 1) := by decide +kernel
theorem dX1_hasTurnOfTrace_27 : decode cX1_hasTurnOfTrace 27 = .ok (.iadd, 1) := by decide +kernel
theorem dX1_hasTurnOfTrace_28 : decode cX1_hasTurnOfTrace 28 = .ok (.iaload, 1) := by decide +kernel
theorem dX1_hasTurnOfTrace_29 : decode cX1_hasTurnOfTrace 29 = .ok (.iadd, 1) := by decide +kernel
theorem dX1_hasTurnOfTrace_30 : decode cX1_hasTurnOfTrace 30 = .ok (.aload_n 0, 1) := by decide +kernel
theorem dX1_hasTurnOfTrace_31 : decode cX1_hasTurnOfTrace 31 = .ok (.getfield 18, 3) := by decide +kernel
theorem dX1_hasTurnOfTrace_34 : decode cX1_hasTurnOfTrace 34 = .ok (.iload_n 3, 1) := by decide +kernel
theorem dX1_hasTurnOfTrace_35 : decode cX1_hasTurnOfTrace 35 = .ok (.bipush 8, 2) := by decide +kernel
theorem dX1_hasTurnOfTrace_37 : decode cX1_hasTurnOfTrace 37 = .ok (.iadd, 1) := by decide +kernel
theorem dX1_hasTurnOfTrace_38 : decode cX1_hasTurnOfTrace 38 = .ok (.iaload, 1) := by decide +kernel
theorem dX1_hasTurnOfTrace_39 : decode cX1_hasTurnOfTrace 39 = .ok (.iadd, 1) := by decide +kernel
theorem dX1_hasTurnOfTrace_40 : decode cX1_hasTurnOfTrace 40 = .ok (.iload_n 1, 1) := by decide +kernel
theorem dX1_hasTurnOfTrace_41 : decode cX1_hasTurnOfTrace 41 = .ok (.if_icmp .ne 5, 3) := by decide +kernel
theorem dX1_hasTurnOfTrace_44 : decode cX1_hasTurnOfTrace 44 = .ok (.iconst 1, 1) := by decide +kernel
theorem dX1_hasTurnOfTrace_45 : decode cX1_hasTurnOfTrace 45 = .ok (.ireturn, 1) := by decide +kernel
theorem dX1_hasTurnOfTrace_46 : decode cX1_hasTurnOfTrace 46 = .ok (.iinc 2 1, 3) := by decide +kernel
theorem dX1_hasTurnOfTrace_49 : decode cX1_hasTurnOfTrace 49 = .ok (.goto (-47), 3) := by decide +kernel
theorem dX1_hasTurnOfTrace_52 : decode cX1_hasTurnOfTrace 52 = .ok (.iconst 0, 1) := by decide +kernel
theorem dX1_hasTurnOfTrace_53 : decode cX1_hasTurnOfTrace 53 = .ok (.ireturn, 1) := by decide +kernel
theorem dX1_countPlain_0 : decode cX1_countPlain 0 = .ok (.iload_n 1, 1) := by decide +kernel
theorem dX1_countPlain_1 : decode cX1_countPlain 1 = .ok (.ifCond .ge 9, 3) := by decide +kernel
theorem dX1_countPlain_4 : decode cX1_countPlain 4 = .ok (.sipush 21588, 3) := by decide +kernel
theorem dX1_countPlain_7 : decode cX1_countPlain 7 = .ok (.goto 5, 3) := by decide +kernel
theorem dX1_countPlain_10 : decode cX1_countPlain 10 = .ok (.ldc 59, 2) := by decide +kernel
theorem dX1_countPlain_12 : decode cX1_countPlain 12 = .ok (.istore_n 2, 1) := by decide +kernel
theorem dX1_countPlain_13 : decode cX1_countPlain 13 = .ok (.iconst 0, 1) := by decide +kernel
theorem dX1_countPlain_14 : decode cX1_countPlain 14 = .ok (.istore_n 3, 1) := by decide +kernel
theorem dX1_countPlain_15 : decode cX1_countPlain 15 = .ok (.iconst 0, 1) := by decide +kernel
theorem dX1_countPlain_16 : decode cX1_countPlain 16 = .ok (.istore 4, 2) := by decide +kernel
theorem dX1_countPlain_18 : decode cX1_countPlain 18 = .ok (.iload 4, 2) := by decide +kernel
theorem dX1_countPlain_20 : decode cX1_countPlain 20 = .ok (.aload_n 0, 1) := by decide +kernel
theorem dX1_countPlain_21 : decode cX1_countPlain 21 = .ok (.getfield 30, 3) := by decide +kernel
theorem dX1_countPlain_24 : decode cX1_countPlain 24 = .ok (.if_icmp .ge 22, 3) := by decide +kernel
theorem dX1_countPlain_27 : decode cX1_countPlain 27 = .ok (.aload_n 0, 1) := by decide +kernel
theorem dX1_countPlain_28 : decode cX1_countPlain 28 = .ok (.iload 4, 2) := by decide +kernel
theorem dX1_countPlain_30 : decode cX1_countPlain 30 = .ok (.invokevirtual 43, 3) := by decide +kernel
theorem dX1_countPlain_33 : decode cX1_countPlain 33 = .ok (.iload_n 2, 1) := by decide +kernel
theorem dX1_countPlain_34 : decode cX1_countPlain 34 = .ok (.if_icmp .ne 6, 3) := by decide +kernel
theorem dX1_countPlain_37 : decode cX1_countPlain 37 = .ok (.iinc 3 1, 3) := by decide +kernel
theorem dX1_countPlain_40 : decode cX1_countPlain 40 = .ok (.iinc 4 1, 3) := by decide +kernel
theorem dX1_countPlain_43 : decode cX1_countPlain 43 = .ok (.goto (-25), 3) := by decide +kernel
theorem dX1_countPlain_46 : decode cX1_countPlain 46 = .ok (.iload_n 3, 1) := by decide +kernel
theorem dX1_countPlain_47 : decode cX1_countPlain 47 = .ok (.ireturn, 1) := by decide +kernel
theorem dX1_sentNumber_0 : decode cX1_sentNumber 0 = .ok (.iload_n 1, 1) := by decide +kernel
theorem dX1_sentNumber_1 : decode cX1_sentNumber 1 = .ok (.bipush 12, 2) := by decide +kernel
theorem dX1_sentNumber_3 : decode cX1_sentNumber 3 = .ok (.imul, 1) := by decide +kernel
theorem dX1_sentNumber_4 : decode cX1_sentNumber 4 = .ok (.iload_n 2, 1) := by decide +kernel
theorem dX1_sentNumber_5 : decode cX1_sentNumber 5 = .ok (.iadd, 1) := by decide +kernel
theorem dX1_sentNumber_6 : decode cX1_sentNumber 6 = .ok (.istore 6, 2) := by decide +kernel
theorem dX1_sentNumber_8 : decode cX1_sentNumber 8 = .ok (.iload_n 3, 1) := by decide +kernel
theorem dX1_sentNumber_9 : decode cX1_sentNumber 9 = .ok (.aload_n 0, 1) := by decide +kernel
theorem dX1_sentNumber_10 : decode cX1_sentNumber 10 = .ok (.getfield 15, 3) := by decide +kernel
theorem dX1_sentNumber_13 : decode cX1_sentNumber 13 = .ok (.iload 6, 2) := by decide +kernel
theorem dX1_sentNumber_15 : decode cX1_sentNumber 15 = .ok (.iaload, 1) := by decide +kernel
theorem dX1_sentNumber_16 : decode cX1_sentNumber 16 = .ok (.imul, 1) := by decide +kernel
theorem dX1_sentNumber_17 : decode cX1_sentNumber 17 = .ok (.iload 4, 2) := by decide +kernel
theorem dX1_sentNumber_19 : decode cX1_sentNumber 19 = .ok (.aload_n 0, 1) := by decide +kernel
theorem dX1_sentNumber_20 : decode cX1_sentNumber 20 = .ok (.getfield 15, 3) := by decide +kernel
theorem dX1_sentNumber_23 : decode cX1_sentNumber 23 = .ok (.iload 6, 2) := by decide +kernel
theorem dX1_sentNumber_25 : decode cX1_sentNumber 25 = .ok (.iconst 3, 1) := by decide +kernel
theorem dX1_sentNumber_26 : decode cX1_sentNumber 26 = .ok (.iadd, 1) := by decide +kernel
theorem dX1_sentNumber_27 : decode cX1_sentNumber 27 = .ok (.iaload, 1) := by decide +kernel
theorem dX1_sentNumber_28 : decode cX1_sentNumber 28 = .ok (.imul, 1) := by decide +kernel
theorem dX1_sentNumber_29 : decode cX1_sentNumber 29 = .ok (.iadd, 1) := by decide +kernel
theorem dX1_sentNumber_30 : decode cX1_sentNumber 30 = .ok (.iload 5, 2) := by decide +kernel
theorem dX1_sentNumber_32 : decode cX1_sentNumber 32 = .ok (.aload_n 0, 1) := by decide +kernel
theorem dX1_sentNumber_33 : decode cX1_sentNumber 33 = .ok (.getfield 15, 3) := by decide +kernel
theorem dX1_sentNumber_36 : decode cX1_sentNumber 36 = .ok (.iload 6, 2) := by decide +kernel
theorem dX1_sentNumber_38 : decode cX1_sentNumber 38 = .ok (.bipush 6, 2) := by decide +kernel
theorem dX1_sentNumber_40 : decode cX1_sentNumber 40 = .ok (.iadd, 1) := by decide +kernel
theorem dX1_sentNumber_41 : decode cX1_sentNumber 41 = .ok (.iaload, 1) := by decide +kernel
theorem dX1_sentNumber_42 : decode cX1_sentNumber 42 = .ok (.imul, 1) := by decide +kernel
theorem dX1_sentNumber_43 : decode cX1_sentNumber 43 = .ok (.iadd, 1) := by decide +kernel
theorem dX1_sentNumber_44 : decode cX1_sentNumber 44 = .ok (.ireturn, 1) := by decide +kernel
theorem dX1_phase_0 : decode cX1_phase 0 = .ok (.iload_n 1, 1) := by decide +kernel
theorem dX1_phase_1 : decode cX1_phase 1 = .ok (.bipush 12, 2) := by decide +kernel
theorem dX1_phase_3 : decode cX1_phase 3 = .ok (.imul, 1) := by decide +kernel
theorem dX1_phase_4 : decode cX1_phase 4 = .ok (.bipush 9, 2) := by decide +kernel
theorem dX1_phase_6 : decode cX1_phase 6 = .ok (.iadd, 1) := by decide +kernel
theorem dX1_phase_7 : decode cX1_phase 7 = .ok (.istore 5, 2) := by decide +kernel
theorem dX1_phase_9 : decode cX1_phase 9 = .ok (.iload_n 2, 1) := by decide +kernel
theorem dX1_phase_10 : decode cX1_phase 10 = .ok (.aload_n 0, 1) := by decide +kernel
theorem dX1_phase_11 : decode cX1_phase 11 = .ok (.getfield 15, 3) := by decide +kernel
theorem dX1_phase_14 : decode cX1_phase 14 = .ok (.iload 5, 2) := by decide +kernel
theorem dX1_phase_16 : decode cX1_phase 16 = .ok (.iaload, 1) := by decide +kernel
theorem dX1_phase_17 : decode cX1_phase 17 = .ok (.imul, 1) := by decide +kernel
theorem dX1_phase_18 : decode cX1_phase 18 = .ok (.iload_n 3, 1) := by decide +kernel
theorem dX1_phase_19 : decode cX1_phase 19 = .ok (.aload_n 0, 1) := by decide +kernel
theorem dX1_phase_20 : decode cX1_phase 20 = .ok (.getfield 15, 3) := by decide +kernel
theorem dX1_phase_23 : decode cX1_phase 23 = .ok (.iload 5, 2) := by decide +kernel
theorem dX1_phase_25 : decode cX1_phase 25 = .ok (.iconst 1, 1) := by decide +kernel
theorem dX1_phase_26 : decode cX1_phase 26 = .ok (.iadd, 1) := by decide +kernel
theorem dX1_phase_27 : decode cX1_phase 27 = .ok (.iaload, 1) := by decide +kernel
theorem dX1_phase_28 : decode cX1_phase 28 = .ok (.imul, 1) := by decide +kernel
theorem dX1_phase_29 : decode cX1_phase 29 = .ok (.iadd, 1) := by decide +kernel
theorem dX1_phase_30 : decode cX1_phase 30 = .ok (.iload 4, 2) := by decide +kernel
theorem dX1_phase_32 : decode cX1_phase 32 = .ok (.aload_n 0, 1) := by decide +kernel
theorem dX1_phase_33 : decode cX1_phase 33 = .ok (.getfield 15, 3) := by decide +kernel
theorem dX1_phase_36 : decode cX1_phase 36 = .ok (.iload 5, 2) := by decide +kernel
theorem dX1_phase_38 : decode cX1_phase 38 = .ok (.iconst 2, 1) := by decide +kernel
theorem dX1_phase_39 : decode cX1_phase 39 = .ok (.iadd, 1) := by decide +kernel
theorem dX1_phase_40 : decode cX1_phase 40 = .ok (.iaload, 1) := by decide +kernel
theorem dX1_phase_41 : decode cX1_phase 41 = .ok (.imul, 1) := by decide +kernel
theorem dX1_phase_42 : decode cX1_phase 42 = .ok (.iadd, 1) := by decide +kernel
theorem dX1_phase_43 : decode cX1_phase 43 = .ok (.bipush 12, 2) := by decide +kernel
theorem dX1_phase_45 : decode cX1_phase 45 = .ok (.invokestatic 60, 3) := by decide +kernel
theorem dX1_phase_48 : decode cX1_phase 48 = .ok (.ireturn, 1) := by decide +kernel
theorem dX1_isAbsent_0 : decode cX1_isAbsent 0 = .ok (.iconst 0, 1) := by decide +kernel
theorem dX1_isAbsent_1 : decode cX1_isAbsent 1 = .ok (.istore 4, 2) := by decide +kernel
theorem dX1_isAbsent_3 : decode cX1_isAbsent 3 = .ok (.iload 4, 2) := by decide +kernel
theorem dX1_isAbsent_5 : decode cX1_isAbsent 5 = .ok (.aload_n 0, 1) := by decide +kernel
theorem dX1_isAbsent_6 : decode cX1_isAbsent 6 = .ok (.getfield 30, 3) := by decide +kernel
theorem dX1_isAbsent_9 : decode cX1_isAbsent 9 = .ok (.if_icmp .ge 65, 3) := by decide +kernel
theorem dX1_isAbsent_12 : decode cX1_isAbsent 12 = .ok (.aload_n 0, 1) := by decide +kernel
theorem dX1_isAbsent_13 : decode cX1_isAbsent 13 = .ok (.iload 4, 2) := by decide +kernel
theorem dX1_isAbsent_15 : decode cX1_isAbsent 15 = .ok (.iconst 0, 1) := by decide +kernel
theorem dX1_isAbsent_16 : decode cX1_isAbsent 16 = .ok (.iload_n 1, 1) := by decide +kernel
theorem dX1_isAbsent_17 : decode cX1_isAbsent 17 = .ok (.iload_n 2, 1) := by decide +kernel
theorem dX1_isAbsent_18 : decode cX1_isAbsent 18 = .ok (.iload_n 3, 1) := by decide +kernel
theorem dX1_isAbsent_19 : decode cX1_isAbsent 19 = .ok (.invokevirtual 66, 3) := by decide +kernel
theorem dX1_isAbsent_22 : decode cX1_isAbsent 22 = .ok (.iload_n 1, 1) := by decide +kernel
theorem dX1_isAbsent_23 : decode cX1_isAbsent 23 = .ok (.if_icmp .ne 45, 3) := by decide +kernel
theorem dX1_isAbsent_26 : decode cX1_isAbsent 26 = .ok (.aload_n 0, 1) := by decide +kernel
theorem dX1_isAbsent_27 : decode cX1_isAbsent 27 = .ok (.iload 4, 2) := by decide +kernel
theorem dX1_isAbsent_29 : decode cX1_isAbsent 29 = .ok (.iconst 1, 1) := by decide +kernel
theorem dX1_isAbsent_30 : decode cX1_isAbsent 30 = .ok (.iload_n 1, 1) := by decide +kernel
theorem dX1_isAbsent_31 : decode cX1_isAbsent 31 = .ok (.iload_n 2, 1) := by decide +kernel
theorem dX1_isAbsent_32 : decode cX1_isAbsent 32 = .ok (.iload_n 3, 1) := by decide +kernel
theorem dX1_isAbsent_33 : decode cX1_isAbsent 33 = .ok (.invokevirtual 66, 3) := by decide +kernel
theorem dX1_isAbsent_36 : decode cX1_isAbsent 36 = .ok (.iload_n 2, 1) := by decide +kernel
theorem dX1_isAbsent_37 : decode cX1_isAbsent 37 = .ok (.if_icmp .ne 31, 3) := by decide +kernel
theorem dX1_isAbsent_40 : decode cX1_isAbsent 40 = .ok (.aload_n 0, 1) := by decide +kernel
theorem dX1_isAbsent_41 : decode cX1_isAbsent 41 = .ok (.iload 4, 2) := by decide +kernel
theorem dX1_isAbsent_43 : decode cX1_isAbsent 43 = .ok (.iconst 2, 1) := by decide +kernel
theorem dX1_isAbsent_44 : decode cX1_isAbsent 44 = .ok (.iload_n 1, 1) := by decide +kernel
theorem dX1_isAbsent_45 : decode cX1_isAbsent 45 = .ok (.iload_n 2, 1) := by decide +kernel
theorem dX1_isAbsent_46 : decode cX1_isAbsent 46 = .ok (.iload_n 3, 1) := by decide +kernel
theorem dX1_isAbsent_47 : decode cX1_isAbsent 47 = .ok (.invokevirtual 66, 3) := by decide +kernel
theorem dX1_isAbsent_50 : decode cX1_isAbsent 50 = .ok (.iload_n 3, 1) := by decide +kernel
theorem dX1_isAbsent_51 : decode cX1_isAbsent 51 = .ok (.if_icmp .ne 17, 3) := by decide +kernel
theorem dX1_isAbsent_54 : decode cX1_isAbsent 54 = .ok (.aload_n 0, 1) := by decide +kernel
theorem dX1_isAbsent_55 : decode cX1_isAbsent 55 = .ok (.iload 4, 2) := by decide +kernel
theorem dX1_isAbsent_57 : decode cX1_isAbsent 57 = .ok (.iload_n 1, 1) := by decide +kernel
theorem dX1_isAbsent_58 : decode cX1_isAbsent 58 = .ok (.iload_n 2, 1) := by decide +kernel
theorem dX1_isAbsent_59 : decode cX1_isAbsent 59 = .ok (.iload_n 3, 1) := by decide +kernel
theorem dX1_isAbsent_60 : decode cX1_isAbsent 60 = .ok (.invokevirtual 70, 3) := by decide +kernel
theorem dX1_isAbsent_63 : decode cX1_isAbsent 63 = .ok (.ifCond .eq 5, 3) := by decide +kernel
theorem dX1_isAbsent_66 : decode cX1_isAbsent 66 = .ok (.iconst 1, 1) := by decide +kernel
theorem dX1_isAbsent_67 : decode cX1_isAbsent 67 = .ok (.ireturn, 1) := by decide +kernel
theorem dX1_isAbsent_68 : decode cX1_isAbsent 68 = .ok (.iinc 4 1, 3) := by decide +kernel
theorem dX1_isAbsent_71 : decode cX1_isAbsent 71 = .ok (.goto (-68), 3) := by decide +kernel
theorem dX1_isAbsent_74 : decode cX1_isAbsent 74 = .ok (.iconst 0, 1) := by decide +kernel
theorem dX1_isAbsent_75 : decode cX1_isAbsent 75 = .ok (.ireturn, 1) := by decide +kernel
theorem dX1_turned_0 : decode cX1_turned 0 = .ok (.iload_n 1, 1) := by decide +kernel
theorem dX1_turned_1 : decode cX1_turned 1 = .ok (.bipush 12, 2) := by decide +kernel
theorem dX1_turned_3 : decode cX1_turned 3 = .ok (.imul, 1) := by decide +kernel
theorem dX1_turned_4 : decode cX1_turned 4 = .ok (.istore 5, 2) := by decide +kernel
theorem dX1_turned_6 : decode cX1_turned 6 = .ok (.iload_n 2, 1) := by decide +kernel
theorem dX1_turned_7 : decode cX1_turned 7 = .ok (.aload_n 0, 1) := by decide +kernel
theorem dX1_turned_8 : decode cX1_turned 8 = .ok (.getfield 18, 3) := by decide +kernel
theorem dX1_turned_11 : decode cX1_turned 11 = .ok (.iload 5, 2) := by decide +kernel
theorem dX1_turned_13 : decode cX1_turned 13 = .ok (.iaload, 1) := by decide +kernel
theorem dX1_turned_14 : decode cX1_turned 14 = .ok (.imul, 1) := by decide +kernel
theorem dX1_turned_15 : decode cX1_turned 15 = .ok (.iload_n 3, 1) := by decide +kernel
theorem dX1_turned_16 : decode cX1_turned 16 = .ok (.aload_n 0, 1) := by decide +kernel
theorem dX1_turned_17 : decode cX1_turned 17 = .ok (.getfield 18, 3) := by decide +kernel
theorem dX1_turned_20 : decode cX1_turned 20 = .ok (.iload 5, 2) := by decide +kernel
theorem dX1_turned_22 : decode cX1_turned 22 = .ok (.iconst 3, 1) := by decide +kernel
theorem dX1_turned_23 : decode cX1_turned 23 = .ok (.iadd, 1) := by decide +kernel
theorem dX1_turned_24 : decode cX1_turned 24 = .ok (.iaload, 1) := by decide +kernel
theorem dX1_turned_25 : decode cX1_turned 25 = .ok (.imul, 1) := by decide +kernel
theorem dX1_turned_26 : decode cX1_turned 26 = .ok (.iadd, 1) := by decide +kernel
theorem dX1_turned_27 : decode cX1_turned 27 = .ok (.iload 4, 2) := by decide +kernel
theorem dX1_turned_29 : decode cX1_turned 29 = .ok (.aload_n 0, 1) := by decide +kernel
theorem dX1_turned_30 : decode cX1_turned 30 = .ok (.getfield 18, 3) := by decide +kernel
theorem dX1_turned_33 : decode cX1_turned 33 = .ok (.iload 5, 2) := by decide +kernel
theorem dX1_turned_35 : decode cX1_turned 35 = .ok (.bipush 6, 2) := by decide +kernel
theorem dX1_turned_37 : decode cX1_turned 37 = .ok (.iadd, 1) := by decide +kernel
theorem dX1_turned_38 : decode cX1_turned 38 = .ok (.iaload, 1) := by decide +kernel
theorem dX1_turned_39 : decode cX1_turned 39 = .ok (.imul, 1) := by decide +kernel
theorem dX1_turned_40 : decode cX1_turned 40 = .ok (.iadd, 1) := by decide +kernel
theorem dX1_turned_41 : decode cX1_turned 41 = .ok (.iload_n 2, 1) := by decide +kernel
theorem dX1_turned_42 : decode cX1_turned 42 = .ok (.aload_n 0, 1) := by decide +kernel
theorem dX1_turned_43 : decode cX1_turned 43 = .ok (.getfield 18, 3) := by decide +kernel
theorem dX1_turned_46 : decode cX1_turned 46 = .ok (.iload 5, 2) := by decide +kernel
theorem dX1_turned_48 : decode cX1_turned 48 = .ok (.iconst 1, 1) := by decide +kernel
theorem dX1_turned_49 : decode cX1_turned 49 = .ok (.iadd, 1) := by decide +kernel
theorem dX1_turned_50 : decode cX1_turned 50 = .ok (.iaload, 1) := by decide +kernel
theorem dX1_turned_51 : decode cX1_turned 51 = .ok (.imul, 1) := by decide +kernel
theorem dX1_turned_52 : decode cX1_turned 52 = .ok (.iload_n 3, 1) := by decide +kernel
theorem dX1_turned_53 : decode cX1_turned 53 = .ok (.aload_n 0, 1) := by decide +kernel
theorem dX1_turned_54 : decode cX1_turned 54 = .ok (.getfield 18, 3) := by decide +kernel
theorem dX1_turned_57 : decode cX1_turned 57 = .ok (.iload 5, 2) := by decide +kernel
theorem dX1_turned_59 : decode cX1_turned 59 = .ok (.iconst 4, 1) := by decide +kernel
theorem dX1_turned_60 : decode cX1_turned 60 = .ok (.iadd, 1) := by decide +kernel
theorem dX1_turned_61 : decode cX1_turned 61 = .ok (.iaload, 1) := by decide +kernel
theorem dX1_turned_62 : decode cX1_turned 62 = .ok (.imul, 1) := by decide +kernel
theorem dX1_turned_63 : decode cX1_turned 63 = .ok (.iadd, 1) := by decide +kernel
theorem dX1_turned_64 : decode cX1_turned 64 = .ok (.iload 4, 2) := by decide +kernel
theorem dX1_turned_66 : decode cX1_turned 66 = .ok (.aload_n 0, 1) := by decide +kernel
theorem dX1_turned_67 : decode cX1_turned 67 = .ok (.getfield 18, 3) := by decide +kernel
theorem dX1_turned_70 : decode cX1_turned 70 = .ok (.iload 5, 2) := by decide +kernel
theorem dX1_turned_72 : decode cX1_turned 72 = .ok (.bipush 7, 2) := by decide +kernel
theorem dX1_turned_74 : decode cX1_turned 74 = .ok (.iadd, 1) := by decide +kernel
theorem dX1_turned_75 : decode cX1_turned 75 = .ok (.iaload, 1) := by decide +kernel
theorem dX1_turned_76 : decode cX1_turned 76 = .ok (.imul, 1) := by decide +kernel
theorem dX1_turned_77 : decode cX1_turned 77 = .ok (.iadd, 1) := by decide +kernel
theorem dX1_turned_78 : decode cX1_turned 78 = .ok (.iload_n 2, 1) := by decide +kernel
theorem dX1_turned_79 : decode cX1_turned 79 = .ok (.aload_n 0, 1) := by decide +kernel
theorem dX1_turned_80 : decode cX1_turned 80 = .ok (.getfield 18, 3) := by decide +kernel
theorem dX1_turned_83 : decode cX1_turned 83 = .ok (.iload 5, 2) := by decide +kernel
theorem dX1_turned_85 : decode cX1_turned 85 = .ok (.iconst 2, 1) := by decide +kernel
theorem dX1_turned_86 : decode cX1_turned 86 = .ok (.iadd, 1) := by decide +kernel
theorem dX1_turned_87 : decode cX1_turned 87 = .ok (.iaload, 1) := by decide +kernel
theorem dX1_turned_88 : decode cX1_turned 88 = .ok (.imul, 1) := by decide +kernel
theorem dX1_turned_89 : decode cX1_turned 89 = .ok (.iload_n 3, 1) := by decide +kernel
theorem dX1_turned_90 : decode cX1_turned 90 = .ok (.aload_n 0, 1) := by decide +kernel
theorem dX1_turned_91 : decode cX1_turned 91 = .ok (.getfield 18, 3) := by decide +kernel
theorem dX1_turned_94 : decode cX1_turned 94 = .ok (.iload 5, 2) := by decide +kernel
theorem dX1_turned_96 : decode cX1_turned 96 = .ok (.iconst 5, 1) := by decide +kernel
theorem dX1_turned_97 : decode cX1_turned 97 = .ok (.iadd, 1) := by decide +kernel
theorem dX1_turned_98 : decode cX1_turned 98 = .ok (.iaload, 1) := by decide +kernel
theorem dX1_turned_99 : decode cX1_turned 99 = .ok (.imul, 1) := by decide +kernel
theorem dX1_turned_100 : decode cX1_turned 100 = .ok (.iadd, 1) := by decide +kernel
theorem dX1_turned_101 : decode cX1_turned 101 = .ok (.iload 4, 2) := by decide +kernel
theorem dX1_turned_103 : decode cX1_turned 103 = .ok (.aload_n 0, 1) := by decide +kernel
theorem dX1_turned_104 : decode cX1_turned 104 = .ok (.getfield 18, 3) := by decide +kernel
theorem dX1_turned_107 : decode cX1_turned 107 = .ok (.iload 5, 2) := by decide +kernel
theorem dX1_turned_109 : decode cX1_turned 109 = .ok (.bipush 8, 2) := by decide +kernel
theorem dX1_turned_111 : decode cX1_turned 111 = .ok (.iadd, 1) := by decide +kernel
theorem dX1_turned_112 : decode cX1_turned 112 = .ok (.iaload, 1) := by decide +kernel
theorem dX1_turned_113 : decode cX1_turned 113 = .ok (.imul, 1) := by decide +kernel
theorem dX1_turned_114 : decode cX1_turned 114 = .ok (.iadd, 1) := by decide +kernel
theorem dX1_turned_115 : decode cX1_turned 115 = .ok (.invokestatic 74, 3) := by decide +kernel
theorem dX1_turned_118 : decode cX1_turned 118 = .ok (.ireturn, 1) := by decide +kernel
theorem dX1_greatestOf_0 : decode cX1_greatestOf 0 = .ok (.iload_n 1, 1) := by decide +kernel
theorem dX1_greatestOf_1 : decode cX1_greatestOf 1 = .ok (.iload_n 2, 1) := by decide +kernel
theorem dX1_greatestOf_2 : decode cX1_greatestOf 2 = .ok (.iload_n 3, 1) := by decide +kernel
theorem dX1_greatestOf_3 : decode cX1_greatestOf 3 = .ok (.invokestatic 74, 3) := by decide +kernel
theorem dX1_greatestOf_6 : decode cX1_greatestOf 6 = .ok (.istore 4, 2) := by decide +kernel
theorem dX1_greatestOf_8 : decode cX1_greatestOf 8 = .ok (.iconst 0, 1) := by decide +kernel
theorem dX1_greatestOf_9 : decode cX1_greatestOf 9 = .ok (.istore 5, 2) := by decide +kernel
theorem dX1_greatestOf_11 : decode cX1_greatestOf 11 = .ok (.iload 5, 2) := by decide +kernel
theorem dX1_greatestOf_13 : decode cX1_greatestOf 13 = .ok (.aload_n 0, 1) := by decide +kernel
theorem dX1_greatestOf_14 : decode cX1_greatestOf 14 = .ok (.getfield 33, 3) := by decide +kernel
theorem dX1_greatestOf_17 : decode cX1_greatestOf 17 = .ok (.if_icmp .ge 37, 3) := by decide +kernel
theorem dX1_greatestOf_20 : decode cX1_greatestOf 20 = .ok (.aload_n 0, 1) := by decide +kernel
theorem dX1_greatestOf_21 : decode cX1_greatestOf 21 = .ok (.iload 5, 2) := by decide +kernel
theorem dX1_greatestOf_23 : decode cX1_greatestOf 23 = .ok (.iload_n 1, 1) := by decide +kernel
theorem dX1_greatestOf_24 : decode cX1_greatestOf 24 = .ok (.iload_n 2, 1) := by decide +kernel
theorem dX1_greatestOf_25 : decode cX1_greatestOf 25 = .ok (.iload_n 3, 1) := by decide +kernel
theorem dX1_greatestOf_26 : decode cX1_greatestOf 26 = .ok (.invokevirtual 80, 3) := by decide +kernel
theorem dX1_greatestOf_29 : decode cX1_greatestOf 29 = .ok (.istore 6, 2) := by decide +kernel
theorem dX1_greatestOf_31 : decode cX1_greatestOf 31 = .ok (.iload 4, 2) := by decide +kernel
theorem dX1_greatestOf_33 : decode cX1_greatestOf 33 = .ok (.iload 6, 2) := by decide +kernel
theorem dX1_greatestOf_35 : decode cX1_greatestOf 35 = .ok (.iload 6, 2) := by decide +kernel
theorem dX1_greatestOf_37 : decode cX1_greatestOf 37 = .ok (.invokestatic 83, 3) := by decide +kernel
theorem dX1_greatestOf_40 : decode cX1_greatestOf 40 = .ok (.invokestatic 86, 3) := by decide +kernel
theorem dX1_greatestOf_43 : decode cX1_greatestOf 43 = .ok (.invokestatic 86, 3) := by decide +kernel
theorem dX1_greatestOf_46 : decode cX1_greatestOf 46 = .ok (.istore 4, 2) := by decide +kernel
theorem dX1_greatestOf_48 : decode cX1_greatestOf 48 = .ok (.iinc 5 1, 3) := by decide +kernel
theorem dX1_greatestOf_51 : decode cX1_greatestOf 51 = .ok (.goto (-40), 3) := by decide +kernel
theorem dX1_greatestOf_54 : decode cX1_greatestOf 54 = .ok (.iload 4, 2) := by decide +kernel
theorem dX1_greatestOf_56 : decode cX1_greatestOf 56 = .ok (.ireturn, 1) := by decide +kernel
theorem dX1_isGreatest_0 : decode cX1_isGreatest 0 = .ok (.iload_n 1, 1) := by decide +kernel
theorem dX1_isGreatest_1 : decode cX1_isGreatest 1 = .ok (.iload_n 2, 1) := by decide +kernel
theorem dX1_isGreatest_2 : decode cX1_isGreatest 2 = .ok (.iload_n 3, 1) := by decide +kernel
theorem dX1_isGreatest_3 : decode cX1_isGreatest 3 = .ok (.invokestatic 74, 3) := by decide +kernel
theorem dX1_isGreatest_6 : decode cX1_isGreatest 6 = .ok (.istore 4, 2) := by decide +kernel
theorem dX1_isGreatest_8 : decode cX1_isGreatest 8 = .ok (.iconst 0, 1) := by decide +kernel
theorem dX1_isGreatest_9 : decode cX1_isGreatest 9 = .ok (.istore 5, 2) := by decide +kernel
theorem dX1_isGreatest_11 : decode cX1_isGreatest 11 = .ok (.iload 5, 2) := by decide +kernel
theorem dX1_isGreatest_13 : decode cX1_isGreatest 13 = .ok (.aload_n 0, 1) := by decide +kernel
theorem dX1_isGreatest_14 : decode cX1_isGreatest 14 = .ok (.getfield 33, 3) := by decide +kernel
theorem dX1_isGreatest_17 : decode cX1_isGreatest 17 = .ok (.if_icmp .ge 39, 3) := by decide +kernel
theorem dX1_isGreatest_20 : decode cX1_isGreatest 20 = .ok (.aload_n 0, 1) := by decide +kernel
theorem dX1_isGreatest_21 : decode cX1_isGreatest 21 = .ok (.iload 5, 2) := by decide +kernel
theorem dX1_isGreatest_23 : decode cX1_isGreatest 23 = .ok (.iload_n 1, 1) := by decide +kernel
theorem dX1_isGreatest_24 : decode cX1_isGreatest 24 = .ok (.iload_n 2, 1) := by decide +kernel
theorem dX1_isGreatest_25 : decode cX1_isGreatest 25 = .ok (.iload_n 3, 1) := by decide +kernel
theorem dX1_isGreatest_26 : decode cX1_isGreatest 26 = .ok (.invokevirtual 80, 3) := by decide +kernel
theorem dX1_isGreatest_29 : decode cX1_isGreatest 29 = .ok (.istore 6, 2) := by decide +kernel
theorem dX1_isGreatest_31 : decode cX1_isGreatest 31 = .ok (.iload 6, 2) := by decide +kernel
theorem dX1_isGreatest_33 : decode cX1_isGreatest 33 = .ok (.iload 4, 2) := by decide +kernel
theorem dX1_isGreatest_35 : decode cX1_isGreatest 35 = .ok (.if_icmp .gt 13, 3) := by decide +kernel
theorem dX1_isGreatest_38 : decode cX1_isGreatest 38 = .ok (.iload 6, 2) := by decide +kernel
theorem dX1_isGreatest_40 : decode cX1_isGreatest 40 = .ok (.invokestatic 83, 3) := by decide +kernel
theorem dX1_isGreatest_43 : decode cX1_isGreatest 43 = .ok (.iload 4, 2) := by decide +kernel
theorem dX1_isGreatest_45 : decode cX1_isGreatest 45 = .ok (.if_icmp .le 5, 3) := by decide +kernel
theorem dX1_isGreatest_48 : decode cX1_isGreatest 48 = .ok (.iconst 0, 1) := by decide +kernel
theorem dX1_isGreatest_49 : decode cX1_isGreatest 49 = .ok (.ireturn, 1) := by decide +kernel
theorem dX1_isGreatest_50 : decode cX1_isGreatest 50 = .ok (.iinc 5 1, 3) := by decide +kernel
theorem dX1_isGreatest_53 : decode cX1_isGreatest 53 = .ok (.goto (-42), 3) := by decide +kernel
theorem dX1_isGreatest_56 : decode cX1_isGreatest 56 = .ok (.iconst 1, 1) := by decide +kernel
theorem dX1_isGreatest_57 : decode cX1_isGreatest 57 = .ok (.ireturn, 1) := by decide +kernel
theorem dX1_multiplicity_0 : decode cX1_multiplicity 0 = .ok (.iload_n 1, 1) := by decide +kernel
theorem dX1_multiplicity_1 : decode cX1_multiplicity 1 = .ok (.iload_n 2, 1) := by decide +kernel
theorem dX1_multiplicity_2 : decode cX1_multiplicity 2 = .ok (.iload_n 3, 1) := by decide +kernel
theorem dX1_multiplicity_3 : decode cX1_multiplicity 3 = .ok (.invokestatic 74, 3) := by decide +kernel
theorem dX1_multiplicity_6 : decode cX1_multiplicity 6 = .ok (.istore 4, 2) := by decide +kernel
theorem dX1_multiplicity_8 : decode cX1_multiplicity 8 = .ok (.iconst 0, 1) := by decide +kernel
theorem dX1_multiplicity_9 : decode cX1_multiplicity 9 = .ok (.istore 5, 2) := by decide +kernel
theorem dX1_multiplicity_11 : decode cX1_multiplicity 11 = .ok (.iconst 0, 1) := by decide +kernel
theorem dX1_multiplicity_12 : decode cX1_multiplicity 12 = .ok (.istore 6, 2) := by decide +kernel
theorem dX1_multiplicity_14 : decode cX1_multiplicity 14 = .ok (.iload 6, 2) := by decide +kernel
theorem dX1_multiplicity_16 : decode cX1_multiplicity 16 = .ok (.aload_n 0, 1) := by decide +kernel
theorem dX1_multiplicity_17 : decode cX1_multiplicity 17 = .ok (.getfield 33, 3) := by decide +kernel
theorem dX1_multiplicity_20 : decode cX1_multiplicity 20 = .ok (.if_icmp .ge 57, 3) := by decide +kernel
theorem dX1_multiplicity_23 : decode cX1_multiplicity 23 = .ok (.aload_n 0, 1) := by decide +kernel
theorem dX1_multiplicity_24 : decode cX1_multiplicity 24 = .ok (.iload 6, 2) := by decide +kernel
theorem dX1_multiplicity_26 : decode cX1_multiplicity 26 = .ok (.iload_n 1, 1) := by decide +kernel
theorem dX1_multiplicity_27 : decode cX1_multiplicity 27 = .ok (.iload_n 2, 1) := by decide +kernel
theorem dX1_multiplicity_28 : decode cX1_multiplicity 28 = .ok (.iload_n 3, 1) := by decide +kernel
theorem dX1_multiplicity_29 : decode cX1_multiplicity 29 = .ok (.invokevirtual 80, 3) := by decide +kernel
theorem dX1_multiplicity_32 : decode cX1_multiplicity 32 = .ok (.istore 7, 2) := by decide +kernel
theorem dX1_multiplicity_34 : decode cX1_multiplicity 34 = .ok (.iload 5, 2) := by decide +kernel
theorem dX1_multiplicity_36 : decode cX1_multiplicity 36 = .ok (.iload 7, 2) := by decide +kernel
theorem dX1_multiplicity_38 : decode cX1_multiplicity 38 = .ok (.iload 4, 2) := by decide +kernel
theorem dX1_multiplicity_40 : decode cX1_multiplicity 40 = .ok (.if_icmp .ne 7, 3) := by decide +kernel
theorem dX1_multiplicity_43 : decode cX1_multiplicity 43 = .ok (.iconst 1, 1) := by decide +kernel
theorem dX1_multiplicity_44 : decode cX1_multiplicity 44 = .ok (.goto 4, 3) := by decide +kernel
theorem dX1_multiplicity_47 : decode cX1_multiplicity 47 = .ok (.iconst 0, 1) := by decide +kernel
theorem dX1_multiplicity_48 : decode cX1_multiplicity 48 = .ok (.iadd, 1) := by decide +kernel
theorem dX1_multiplicity_49 : decode cX1_multiplicity 49 = .ok (.istore 5, 2) := by decide +kernel
theorem dX1_multiplicity_51 : decode cX1_multiplicity 51 = .ok (.iload 5, 2) := by decide +kernel
theorem dX1_multiplicity_53 : decode cX1_multiplicity 53 = .ok (.iload 7, 2) := by decide +kernel
theorem dX1_multiplicity_55 : decode cX1_multiplicity 55 = .ok (.invokestatic 83, 3) := by decide +kernel
theorem dX1_multiplicity_58 : decode cX1_multiplicity 58 = .ok (.iload 4, 2) := by decide +kernel
theorem dX1_multiplicity_60 : decode cX1_multiplicity 60 = .ok (.if_icmp .ne 7, 3) := by decide +kernel
theorem dX1_multiplicity_63 : decode cX1_multiplicity 63 = .ok (.iconst 1, 1) := by decide +kernel
theorem dX1_multiplicity_64 : decode cX1_multiplicity 64 = .ok (.goto 4, 3) := by decide +kernel
theorem dX1_multiplicity_67 : decode cX1_multiplicity 67 = .ok (.iconst 0, 1) := by decide +kernel
theorem dX1_multiplicity_68 : decode cX1_multiplicity 68 = .ok (.iadd, 1) := by decide +kernel
theorem dX1_multiplicity_69 : decode cX1_multiplicity 69 = .ok (.istore 5, 2) := by decide +kernel
theorem dX1_multiplicity_71 : decode cX1_multiplicity 71 = .ok (.iinc 6 1, 3) := by decide +kernel
theorem dX1_multiplicity_74 : decode cX1_multiplicity 74 = .ok (.goto (-60), 3) := by decide +kernel
theorem dX1_multiplicity_77 : decode cX1_multiplicity 77 = .ok (.iload 5, 2) := by decide +kernel
theorem dX1_multiplicity_79 : decode cX1_multiplicity 79 = .ok (.ifCond .ne 7, 3) := by decide +kernel
theorem dX1_multiplicity_82 : decode cX1_multiplicity 82 = .ok (.iconst 0, 1) := by decide +kernel
theorem dX1_multiplicity_83 : decode cX1_multiplicity 83 = .ok (.goto 12, 3) := by decide +kernel
theorem dX1_multiplicity_86 : decode cX1_multiplicity 86 = .ok (.iconst 2, 1) := by decide +kernel
theorem dX1_multiplicity_87 : decode cX1_multiplicity 87 = .ok (.aload_n 0, 1) := by decide +kernel
theorem dX1_multiplicity_88 : decode cX1_multiplicity 88 = .ok (.getfield 33, 3) := by decide +kernel
theorem dX1_multiplicity_91 : decode cX1_multiplicity 91 = .ok (.imul, 1) := by decide +kernel
theorem dX1_multiplicity_92 : decode cX1_multiplicity 92 = .ok (.iload 5, 2) := by decide +kernel
theorem dX1_multiplicity_94 : decode cX1_multiplicity 94 = .ok (.idiv, 1) := by decide +kernel
theorem dX1_multiplicity_95 : decode cX1_multiplicity 95 = .ok (.ireturn, 1) := by decide +kernel
theorem dX1_countPresentKindsWithin_0 : decode cX1_countPresentKindsWithin 0 = .ok (.iconst 0, 1) := by decide +kernel
theorem dX1_countPresentKindsWithin_1 : decode cX1_countPresentKindsWithin 1 = .ok (.istore_n 2, 1) := by decide +kernel
theorem dX1_countPresentKindsWithin_2 : decode cX1_countPresentKindsWithin 2 = .ok (.iconst 0, 1) := by decide +kernel
theorem dX1_countPresentKindsWithin_3 : decode cX1_countPresentKindsWithin 3 = .ok (.istore_n 3, 1) := by decide +kernel
theorem dX1_countPresentKindsWithin_4 : decode cX1_countPresentKindsWithin 4 = .ok (.iload_n 3, 1) := by decide +kernel
theorem dX1_countPresentKindsWithin_5 : decode cX1_countPresentKindsWithin 5 = .ok (.iload_n 1, 1) := by decide +kernel
theorem dX1_countPresentKindsWithin_6 : decode cX1_countPresentKindsWithin 6 = .ok (.if_icmp .gt 94, 3) := by decide +kernel
theorem dX1_countPresentKindsWithin_9 : decode cX1_countPresentKindsWithin 9 = .ok (.iload_n 1, 1) := by decide +kernel
theorem dX1_countPresentKindsWithin_10 : decode cX1_countPresentKindsWithin 10 = .ok (.ineg, 1) := by decide +kernel
theorem dX1_countPresentKindsWithin_11 : decode cX1_countPresentKindsWithin 11 = .ok (.istore 4, 2) := by decide +kernel
theorem dX1_countPresentKindsWithin_13 : decode cX1_countPresentKindsWithin 13 = .ok (.iload 4, 2) := by decide +kernel
theorem dX1_countPresentKindsWithin_15 : decode cX1_countPresentKindsWithin 15 = .ok (.iload_n 1, 1) := by decide +kernel
theorem dX1_countPresentKindsWithin_16 : decode cX1_countPresentKindsWithin 16 = .ok (.if_icmp .gt 78, 3) := by decide +kernel
theorem dX1_countPresentKindsWithin_19 : decode cX1_countPresentKindsWithin 19 = .ok (.iload_n 1, 1) := by decide +kernel
theorem dX1_countPresentKindsWithin_20 : decode cX1_countPresentKindsWithin 20 = .ok (.ineg, 1) := by decide +kernel
theorem dX1_countPresentKindsWithin_21 : decode cX1_countPresentKindsWithin 21 = .ok (.istore 5, 2) := by decide +kernel
theorem dX1_countPresentKindsWithin_23 : decode cX1_countPresentKindsWithin 23 = .ok (.iload 5, 2) := by decide +kernel
theorem dX1_countPresentKindsWithin_25 : decode cX1_countPresentKindsWithin 25 = .ok (.iload_n 1, 1) := by decide +kernel
theorem dX1_countPresentKindsWithin_26 : decode cX1_countPresentKindsWithin 26 = .ok (.if_icmp .gt 62, 3) := by decide +kernel
theorem dX1_countPresentKindsWithin_29 : decode cX1_countPresentKindsWithin 29 = .ok (.iload_n 3, 1) := by decide +kernel
theorem dX1_countPresentKindsWithin_30 : decode cX1_countPresentKindsWithin 30 = .ok (.ifCond .ne 17, 3) := by decide +kernel
theorem dX1_countPresentKindsWithin_33 : decode cX1_countPresentKindsWithin 33 = .ok (.iload 4, 2) := by decide +kernel
theorem dX1_countPresentKindsWithin_35 : decode cX1_countPresentKindsWithin 35 = .ok (.ifCond .ne 12, 3) := by decide +kernel
theorem dX1_countPresentKindsWithin_38 : decode cX1_countPresentKindsWithin 38 = .ok (.iload 5, 2) := by decide +kernel
theorem dX1_countPresentKindsWithin_40 : decode cX1_countPresentKindsWithin 40 = .ok (.ifCond .ne 7, 3) := by decide +kernel
theorem dX1_countPresentKindsWithin_43 : decode cX1_countPresentKindsWithin 43 = .ok (.iconst 1, 1) := by decide +kernel
theorem dX1_countPresentKindsWithin_44 : decode cX1_countPresentKindsWithin 44 = .ok (.goto 4, 3) := by decide +kernel
theorem dX1_countPresentKindsWithin_47 : decode cX1_countPresentKindsWithin 47 = .ok (.iconst 0, 1) := by decide +kernel
theorem dX1_countPresentKindsWithin_48 : decode cX1_countPresentKindsWithin 48 = .ok (.istore 6, 2) := by decide +kernel
theorem dX1_countPresentKindsWithin_50 : decode cX1_countPresentKindsWithin 50 = .ok (.iload 6, 2) := by decide +kernel
theorem dX1_countPresentKindsWithin_52 : decode cX1_countPresentKindsWithin 52 = .ok (.ifCond .ne 30, 3) := by decide +kernel
theorem dX1_countPresentKindsWithin_55 : decode cX1_countPresentKindsWithin 55 = .ok (.aload_n 0, 1) := by decide +kernel
theorem dX1_countPresentKindsWithin_56 : decode cX1_countPresentKindsWithin 56 = .ok (.iload_n 3, 1) := by decide +kernel
theorem dX1_countPresentKindsWithin_57 : decode cX1_countPresentKindsWithin 57 = .ok (.iload 4, 2) := by decide +kernel
theorem dX1_countPresentKindsWithin_59 : decode cX1_countPresentKindsWithin 59 = .ok (.iload 5, 2) := by decide +kernel
theorem dX1_countPresentKindsWithin_61 : decode cX1_countPresentKindsWithin 61 = .ok (.invokevirtual 89, 3) := by decide +kernel
theorem dX1_countPresentKindsWithin_64 : decode cX1_countPresentKindsWithin 64 = .ok (.ifCond .eq 18, 3) := by decide +kernel
theorem dX1_countPresentKindsWithin_67 : decode cX1_countPresentKindsWithin 67 = .ok (.aload_n 0, 1) := by decide +kernel
theorem dX1_countPresentKindsWithin_68 : decode cX1_countPresentKindsWithin 68 = .ok (.iload_n 3, 1) := by decide +kernel
theorem dX1_countPresentKindsWithin_69 : decode cX1_countPresentKindsWithin 69 = .ok (.iload 4, 2) := by decide +kernel
theorem dX1_countPresentKindsWithin_71 : decode cX1_countPresentKindsWithin 71 = .ok (.iload 5, 2) := by decide +kernel
theorem dX1_countPresentKindsWithin_73 : decode cX1_countPresentKindsWithin 73 = .ok (.invokevirtual 93, 3) := by decide +kernel
theorem dX1_countPresentKindsWithin_76 : decode cX1_countPresentKindsWithin 76 = .ok (.ifCond .ne 6, 3) := by decide +kernel
theorem dX1_countPresentKindsWithin_79 : decode cX1_countPresentKindsWithin 79 = .ok (.iinc 2 1, 3) := by decide +kernel
theorem dX1_countPresentKindsWithin_82 : decode cX1_countPresentKindsWithin 82 = .ok (.iinc 5 1, 3) := by decide +kernel
theorem dX1_countPresentKindsWithin_85 : decode cX1_countPresentKindsWithin 85 = .ok (.goto (-62), 3) := by decide +kernel
theorem dX1_countPresentKindsWithin_88 : decode cX1_countPresentKindsWithin 88 = .ok (.iinc 4 1, 3) := by decide +kernel
theorem dX1_countPresentKindsWithin_91 : decode cX1_countPresentKindsWithin 91 = .ok (.goto (-78), 3) := by decide +kernel
theorem dX1_countPresentKindsWithin_94 : decode cX1_countPresentKindsWithin 94 = .ok (.iinc 3 1, 3) := by decide +kernel
theorem dX1_countPresentKindsWithin_97 : decode cX1_countPresentKindsWithin 97 = .ok (.goto (-93), 3) := by decide +kernel
theorem dX1_countPresentKindsWithin_100 : decode cX1_countPresentKindsWithin 100 = .ok (.iload_n 2, 1) := by decide +kernel
theorem dX1_countPresentKindsWithin_101 : decode cX1_countPresentKindsWithin 101 = .ok (.ireturn, 1) := by decide +kernel
theorem dX2_init_0 : decode cX2_init 0 = .ok (.aload_n 0, 1) := by decide +kernel
theorem dX2_init_1 : decode cX2_init 1 = .ok (.invokespecial 3, 3) := by decide +kernel
theorem dX2_init_4 : decode cX2_init 4 = .ok (.aload_n 0, 1) := by decide +kernel
theorem dX2_init_5 : decode cX2_init 5 = .ok (.bipush 96, 2) := by decide +kernel
theorem dX2_init_7 : decode cX2_init 7 = .ok (.newarray .int, 2) := by decide +kernel
theorem dX2_init_9 : decode cX2_init 9 = .ok (.putfield 13, 3) := by decide +kernel
theorem dX2_init_12 : decode cX2_init 12 = .ok (.aload_n 0, 1) := by decide +kernel
theorem dX2_init_13 : decode cX2_init 13 = .ok (.sipush 192, 3) := by decide +kernel
theorem dX2_init_16 : decode cX2_init 16 = .ok (.newarray .int, 2) := by decide +kernel
theorem dX2_init_18 : decode cX2_init 18 = .ok (.putfield 17, 3) := by decide +kernel
theorem dX2_init_21 : decode cX2_init 21 = .ok (.aload_n 0, 1) := by decide +kernel
theorem dX2_init_22 : decode cX2_init 22 = .ok (.sipush 192, 3) := by decide +kernel
theorem dX2_init_25 : decode cX2_init 25 = .ok (.newarray .int, 2) := by decide +kernel
theorem dX2_init_27 : decode cX2_init 27 = .ok (.putfield 20, 3) := by decide +kernel
theorem dX2_init_30 : decode cX2_init 30 = .ok (.aload_n 0, 1) := by decide +kernel
theorem dX2_init_31 : decode cX2_init 31 = .ok (.bipush 12, 2) := by decide +kernel
theorem dX2_init_33 : decode cX2_init 33 = .ok (.newarray .int, 2) := by decide +kernel
theorem dX2_init_35 : decode cX2_init 35 = .ok (.putfield 23, 3) := by decide +kernel
theorem dX2_init_38 : decode cX2_init 38 = .ok (.return_, 1) := by decide +kernel
theorem dX2_clear_0 : decode cX2_clear 0 = .ok (.aload_n 0, 1) := by decide +kernel
theorem dX2_clear_1 : decode cX2_clear 1 = .ok (.iconst 0, 1) := by decide +kernel
theorem dX2_clear_2 : decode cX2_clear 2 = .ok (.putfield 26, 3) := by decide +kernel
theorem dX2_clear_5 : decode cX2_clear 5 = .ok (.return_, 1) := by decide +kernel
theorem dX2_addGenerator_0 : decode cX2_addGenerator 0 = .ok (.aload_n 0, 1) := by decide +kernel
theorem dX2_addGenerator_1 : decode cX2_addGenerator 1 = .ok (.getfield 26, 3) := by decide +kernel
theorem dX2_addGenerator_4 : decode cX2_addGenerator 4 = .ok (.bipush 8, 2) := by decide +kernel
theorem dX2_addGenerator_6 : decode cX2_addGenerator 6 = .ok (.if_icmp .ge 42, 3) := by decide +kernel
theorem dX2_addGenerator_9 : decode cX2_addGenerator 9 = .ok (.aload_n 1, 1) := by decide +kernel
theorem dX2_addGenerator_10 : decode cX2_addGenerator 10 = .ok (.ifnull 38, 3) := by decide +kernel
theorem dX2_addGenerator_13 : decode cX2_addGenerator 13 = .ok (.aload_n 1, 1) := by decide +kernel
theorem dX2_addGenerator_14 : decode cX2_addGenerator 14 = .ok (.arraylength, 1) := by decide +kernel
theorem dX2_addGenerator_15 : decode cX2_addGenerator 15 = .ok (.bipush 12, 2) := by decide +kernel
theorem dX2_addGenerator_17 : decode cX2_addGenerator 17 = .ok (.if_icmp .ne 31, 3) := by decide +kernel
theorem dX2_addGenerator_20 : decode cX2_addGenerator 20 = .ok (.aload_n 1, 1) := by decide +kernel
theorem dX2_addGenerator_21 : decode cX2_addGenerator 21 = .ok (.iconst 0, 1) := by decide +kernel
theorem dX2_addGenerator_22 : decode cX2_addGenerator 22 = .ok (.aload_n 0, 1) := by decide +kernel
theorem dX2_addGenerator_23 : decode cX2_addGenerator 23 = .ok (.getfield 13, 3) := by decide +kernel
theorem dX2_addGenerator_26 : decode cX2_addGenerator 26 = .ok (.aload_n 0, 1) := by decide +kernel
theorem dX2_addGenerator_27 : decode cX2_addGenerator 27 = .ok (.getfield 26, 3) := by decide +kernel
theorem dX2_addGenerator_30 : decode cX2_addGenerator 30 = .ok (.bipush 12, 2) := by decide +kernel
theorem dX2_addGenerator_32 : decode cX2_addGenerator 32 = .ok (.imul, 1) := by decide +kernel
theorem dX2_addGenerator_33 : decode cX2_addGenerator 33 = .ok (.bipush 12, 2) := by decide +kernel
theorem dX2_addGenerator_35 : decode cX2_addGenerator 35 = .ok (.invokestatic 30, 3) := by decide +kernel
theorem dX2_addGenerator_38 : decode cX2_addGenerator 38 = .ok (.aload_n 0, 1) := by decide +kernel
theorem dX2_addGenerator_39 : decode cX2_addGenerator 39 = .ok (.dup, 1) := by decide +kernel
theorem dX2_addGenerator_40 : decode cX2_addGenerator 40 = .ok (.getfield 26, 3) := by decide +kernel
theorem dX2_addGenerator_43 : decode cX2_addGenerator 43 = .ok (.iconst 1, 1) := by decide +kernel
theorem dX2_addGenerator_44 : decode cX2_addGenerator 44 = .ok (.iadd, 1) := by decide +kernel
theorem dX2_addGenerator_45 : decode cX2_addGenerator 45 = .ok (.putfield 26, 3) := by decide +kernel
theorem dX2_addGenerator_48 : decode cX2_addGenerator 48 = .ok (.return_, 1) := by decide +kernel
theorem dX2_makesGroup_0 : decode cX2_makesGroup 0 = .ok (.aload_n 0, 1) := by decide +kernel
theorem dX2_makesGroup_1 : decode cX2_makesGroup 1 = .ok (.iconst 0, 1) := by decide +kernel
theorem dX2_makesGroup_2 : decode cX2_makesGroup 2 = .ok (.putfield 36, 3) := by decide +kernel
theorem dX2_makesGroup_5 : decode cX2_makesGroup 5 = .ok (.aload_n 0, 1) := by decide +kernel
theorem dX2_makesGroup_6 : decode cX2_makesGroup 6 = .ok (.ldc 39, 2) := by decide +kernel
theorem dX2_makesGroup_8 : decode cX2_makesGroup 8 = .ok (.invokevirtual 40, 3) := by decide +kernel
theorem dX2_makesGroup_11 : decode cX2_makesGroup 11 = .ok (.pop, 1) := by decide +kernel
theorem dX2_makesGroup_12 : decode cX2_makesGroup 12 = .ok (.iconst 0, 1) := by decide +kernel
theorem dX2_makesGroup_13 : decode cX2_makesGroup 13 = .ok (.istore_n 1, 1) := by decide +kernel
theorem dX2_makesGroup_14 : decode cX2_makesGroup 14 = .ok (.iload_n 1, 1) := by decide +kernel
theorem dX2_makesGroup_15 : decode cX2_makesGroup 15 = .ok (.sipush 192, 3) := by decide +kernel
theorem dX2_makesGroup_18 : decode cX2_makesGroup 18 = .ok (.if_icmp .ge 71, 3) := by decide +kernel
theorem dX2_makesGroup_21 : decode cX2_makesGroup 21 = .ok (.iload_n 1, 1) := by decide +kernel
theorem dX2_makesGroup_22 : decode cX2_makesGroup 22 = .ok (.aload_n 0, 1) := by decide +kernel
theorem dX2_makesGroup_23 : decode cX2_makesGroup 23 = .ok (.getfield 36, 3) := by decide +kernel
theorem dX2_makesGroup_26 : decode cX2_makesGroup 26 = .ok (.if_icmp .ge 63, 3) := by decide +kernel
theorem dX2_makesGroup_29 : decode cX2_makesGroup 29 = .ok (.aload_n 0, 1) := by decide +kernel
theorem dX2_makesGroup_30 : decode cX2_makesGroup 30 = .ok (.getfield 17, 3) := by decide +kernel
theorem dX2_makesGroup_33 : decode cX2_makesGroup 33 = .ok (.iload_n 1, 1) := by decide +kernel
theorem dX2_makesGroup_34 : decode cX2_makesGroup 34 = .ok (.iaload, 1) := by decide +kernel
theorem dX2_makesGroup_35 : decode cX2_makesGroup 35 = .ok (.aload_n 0, 1) := by decide +kernel
theorem dX2_makesGroup_36 : decode cX2_makesGroup 36 = .ok (.getfield 23, 3) := by decide +kernel
theorem dX2_makesGroup_39 : decode cX2_makesGroup 39 = .ok (.iconst 0, 1) := by decide +kernel
theorem dX2_makesGroup_40 : decode cX2_makesGroup 40 = .ok (.invokestatic 44, 3) := by decide +kernel
theorem dX2_makesGroup_43 : decode cX2_makesGroup 43 = .ok (.iconst 0, 1) := by decide +kernel
theorem dX2_makesGroup_44 : decode cX2_makesGroup 44 = .ok (.istore_n 2, 1) := by decide +kernel
theorem dX2_makesGroup_45 : decode cX2_makesGroup 45 = .ok (.iload_n 2, 1) := by decide +kernel
theorem dX2_makesGroup_46 : decode cX2_makesGroup 46 = .ok (.aload_n 0, 1) := by decide +kernel
theorem dX2_makesGroup_47 : decode cX2_makesGroup 47 = .ok (.getfield 26, 3) := by decide +kernel
theorem dX2_makesGroup_50 : decode cX2_makesGroup 50 = .ok (.if_icmp .ge 33, 3) := by decide +kernel
theorem dX2_makesGroup_53 : decode cX2_makesGroup 53 = .ok (.aload_n 0, 1) := by decide +kernel
theorem dX2_makesGroup_54 : decode cX2_makesGroup 54 = .ok (.iload_n 2, 1) := by decide +kernel
theorem dX2_makesGroup_55 : decode cX2_makesGroup 55 = .ok (.bipush 12, 2) := by decide +kernel
theorem dX2_makesGroup_57 : decode cX2_makesGroup 57 = .ok (.imul, 1) := by decide +kernel
theorem dX2_makesGroup_58 : decode cX2_makesGroup 58 = .ok (.invokevirtual 48, 3) := by decide +kernel
theorem dX2_makesGroup_61 : decode cX2_makesGroup 61 = .ok (.istore_n 3, 1) := by decide +kernel
theorem dX2_makesGroup_62 : decode cX2_makesGroup 62 = .ok (.iload_n 3, 1) := by decide +kernel
theorem dX2_makesGroup_63 : decode cX2_makesGroup 63 = .ok (.iconst (-1), 1) := by decide +kernel
theorem dX2_makesGroup_64 : decode cX2_makesGroup 64 = .ok (.if_icmp .eq 11, 3) := by decide +kernel
theorem dX2_makesGroup_67 : decode cX2_makesGroup 67 = .ok (.aload_n 0, 1) := by decide +kernel
theorem dX2_makesGroup_68 : decode cX2_makesGroup 68 = .ok (.iload_n 3, 1) := by decide +kernel
theorem dX2_makesGroup_69 : decode cX2_makesGroup 69 = .ok (.invokevirtual 40, 3) := by decide +kernel
theorem dX2_makesGroup_72 : decode cX2_makesGroup 72 = .ok (.ifCond .ne 5, 3) := by decide +kernel
theorem dX2_makesGroup_75 : decode cX2_makesGroup 75 = .ok (.iconst 0, 1) := by decide +kernel
theorem dX2_makesGroup_76 : decode cX2_makesGroup 76 = .ok (.ireturn, 1) := by decide +kernel
theorem dX2_makesGroup_77 : decode cX2_makesGroup 77 = .ok (.iinc 2 1, 3) := by decide +kernel
theorem dX2_makesGroup_80 : decode cX2_makesGroup 80 = .ok (.goto (-35), 3) := by decide +kernel
theorem dX2_makesGroup_83 : decode cX2_makesGroup 83 = .ok (.iinc 1 1, 3) := by decide +kernel
theorem dX2_makesGroup_86 : decode cX2_makesGroup 86 = .ok (.goto (-72), 3) := by decide +kernel
theorem dX2_makesGroup_89 : decode cX2_makesGroup 89 = .ok (.iconst 1, 1) := by decide +kernel
theorem dX2_makesGroup_90 : decode cX2_makesGroup 90 = .ok (.ireturn, 1) := by decide +kernel
theorem dX2_keyOfLeftBehind_0 : decode cX2_keyOfLeftBehind 0 = .ok (.iconst 0, 1) := by decide +kernel
theorem dX2_keyOfLeftBehind_1 : decode cX2_keyOfLeftBehind 1 = .ok (.istore_n 2, 1) := by decide +kernel
theorem dX2_keyOfLeftBehind_2 : decode cX2_keyOfLeftBehind 2 = .ok (.iconst 0, 1) := by decide +kernel
theorem dX2_keyOfLeftBehind_3 : decode cX2_keyOfLeftBehind 3 = .ok (.istore_n 3, 1) := by decide +kernel
theorem dX2_keyOfLeftBehind_4 : decode cX2_keyOfLeftBehind 4 = .ok (.iload_n 3, 1) := by decide +kernel
theorem dX2_keyOfLeftBehind_5 : decode cX2_keyOfLeftBehind 5 = .ok (.bipush 9, 2) := by decide +kernel
theorem dX2_keyOfLeftBehind_7 : decode cX2_keyOfLeftBehind 7 = .ok (.if_icmp .ge 59, 3) := by decide +kernel
theorem dX2_keyOfLeftBehind_10 : decode cX2_keyOfLeftBehind 10 = .ok (.iconst 0, 1) := by decide +kernel
theorem dX2_keyOfLeftBehind_11 : decode cX2_keyOfLeftBehind 11 = .ok (.istore 4, 2) := by decide +kernel
theorem dX2_keyOfLeftBehind_13 : decode cX2_keyOfLeftBehind 13 = .ok (.iload 4, 2) := by decide +kernel
theorem dX2_keyOfLeftBehind_15 : decode cX2_keyOfLeftBehind 15 = .ok (.iconst 3, 1) := by decide +kernel
theorem dX2_keyOfLeftBehind_16 : decode cX2_keyOfLeftBehind 16 = .ok (.if_icmp .ge 44, 3) := by decide +kernel
theorem dX2_keyOfLeftBehind_19 : decode cX2_keyOfLeftBehind 19 = .ok (.aload_n 0, 1) := by decide +kernel
theorem dX2_keyOfLeftBehind_20 : decode cX2_keyOfLeftBehind 20 = .ok (.iload_n 3, 1) := by decide +kernel
theorem dX2_keyOfLeftBehind_21 : decode cX2_keyOfLeftBehind 21 = .ok (.iload_n 1, 1) := by decide +kernel
theorem dX2_keyOfLeftBehind_22 : decode cX2_keyOfLeftBehind 22 = .ok (.iload 4, 2) := by decide +kernel
theorem dX2_keyOfLeftBehind_24 : decode cX2_keyOfLeftBehind 24 = .ok (.iadd, 1) := by decide +kernel
theorem dX2_keyOfLeftBehind_25 : decode cX2_keyOfLeftBehind 25 = .ok (.iconst 3, 1) := by decide +kernel
theorem dX2_keyOfLeftBehind_26 : decode cX2_keyOfLeftBehind 26 = .ok (.invokevirtual 52, 3) := by decide +kernel
theorem dX2_keyOfLeftBehind_29 : decode cX2_keyOfLeftBehind 29 = .ok (.istore 5, 2) := by decide +kernel
theorem dX2_keyOfLeftBehind_31 : decode cX2_keyOfLeftBehind 31 = .ok (.iload 5, 2) := by decide +kernel
theorem dX2_keyOfLeftBehind_33 : decode cX2_keyOfLeftBehind 33 = .ok (.iconst (-1), 1) := by decide +kernel
theorem dX2_keyOfLeftBehind_34 : decode cX2_keyOfLeftBehind 34 = .ok (.if_icmp .lt 9, 3) := by decide +kernel
theorem dX2_keyOfLeftBehind_37 : decode cX2_keyOfLeftBehind 37 = .ok (.iload 5, 2) := by decide +kernel
theorem dX2_keyOfLeftBehind_39 : decode cX2_keyOfLeftBehind 39 = .ok (.iconst 1, 1) := by decide +kernel
theorem dX2_keyOfLeftBehind_40 : decode cX2_keyOfLeftBehind 40 = .ok (.if_icmp .le 5, 3) := by decide +kernel
theorem dX2_keyOfLeftBehind_43 : decode cX2_keyOfLeftBehind 43 = .ok (.iconst (-1), 1) := by decide +kernel
theorem dX2_keyOfLeftBehind_44 : decode cX2_keyOfLeftBehind 44 = .ok (.ireturn, 1) := by decide +kernel
theorem dX2_keyOfLeftBehind_45 : decode cX2_keyOfLeftBehind 45 = .ok (.iload_n 2, 1) := by decide +kernel
theorem dX2_keyOfLeftBehind_46 : decode cX2_keyOfLeftBehind 46 = .ok (.iconst 2, 1) := by decide +kernel
theorem dX2_keyOfLeftBehind_47 : decode cX2_keyOfLeftBehind 47 = .ok (.ishl, 1) := by decide +kernel
theorem dX2_keyOfLeftBehind_48 : decode cX2_keyOfLeftBehind 48 = .ok (.iload 5, 2) := by decide +kernel
theorem dX2_keyOfLeftBehind_50 : decode cX2_keyOfLeftBehind 50 = .ok (.iadd, 1) := by decide +kernel
theorem dX2_keyOfLeftBehind_51 : decode cX2_keyOfLeftBehind 51 = .ok (.iconst 1, 1) := by decide +kernel
theorem dX2_keyOfLeftBehind_52 : decode cX2_keyOfLeftBehind 52 = .ok (.iadd, 1) := by decide +kernel
theorem dX2_keyOfLeftBehind_53 : decode cX2_keyOfLeftBehind 53 = .ok (.istore_n 2, 1) := by decide +kernel
theorem dX2_keyOfLeftBehind_54 : decode cX2_keyOfLeftBehind 54 = .ok (.iinc 4 1, 3) := by decide +kernel
theorem dX2_keyOfLeftBehind_57 : decode cX2_keyOfLeftBehind 57 = .ok (.goto (-44), 3) := by decide +kernel
theorem dX2_keyOfLeftBehind_60 : decode cX2_keyOfLeftBehind 60 = .ok (.iinc 3 3, 3) := by decide +kernel
theorem dX2_keyOfLeftBehind_63 : decode cX2_keyOfLeftBehind 63 = .ok (.goto (-59), 3) := by decide +kernel
theorem dX2_keyOfLeftBehind_66 : decode cX2_keyOfLeftBehind 66 = .ok (.iconst 0, 1) := by decide +kernel
theorem dX2_keyOfLeftBehind_67 : decode cX2_keyOfLeftBehind 67 = .ok (.istore_n 3, 1) := by decide +kernel
theorem dX2_keyOfLeftBehind_68 : decode cX2_keyOfLeftBehind 68 = .ok (.iload_n 3, 1) := by decide +kernel
theorem dX2_keyOfLeftBehind_69 : decode cX2_keyOfLeftBehind 69 = .ok (.iconst 3, 1) := by decide +kernel
theorem dX2_keyOfLeftBehind_70 : decode cX2_keyOfLeftBehind 70 = .ok (.if_icmp .ge 45, 3) := by decide +kernel
theorem dX2_keyOfLeftBehind_73 : decode cX2_keyOfLeftBehind 73 = .ok (.aload_n 0, 1) := by decide +kernel
theorem dX2_keyOfLeftBehind_74 : decode cX2_keyOfLeftBehind 74 = .ok (.iload_n 3, 1) := by decide +kernel
theorem dX2_keyOfLeftBehind_75 : decode cX2_keyOfLeftBehind 75 = .ok (.iconst 3, 1) := by decide +kernel
theorem dX2_keyOfLeftBehind_76 : decode cX2_keyOfLeftBehind 76 = .ok (.imul, 1) := by decide +kernel
theorem dX2_keyOfLeftBehind_77 : decode cX2_keyOfLeftBehind 77 = .ok (.iload_n 1, 1) := by decide +kernel
theorem dX2_keyOfLeftBehind_78 : decode cX2_keyOfLeftBehind 78 = .ok (.bipush 9, 2) := by decide +kernel
theorem dX2_keyOfLeftBehind_80 : decode cX2_keyOfLeftBehind 80 = .ok (.iadd, 1) := by decide +kernel
theorem dX2_keyOfLeftBehind_81 : decode cX2_keyOfLeftBehind 81 = .ok (.iconst 1, 1) := by decide +kernel
theorem dX2_keyOfLeftBehind_82 : decode cX2_keyOfLeftBehind 82 = .ok (.invokevirtual 52, 3) := by decide +kernel
theorem dX2_keyOfLeftBehind_85 : decode cX2_keyOfLeftBehind 85 = .ok (.aload_n 0, 1) := by decide +kernel
theorem dX2_keyOfLeftBehind_86 : decode cX2_keyOfLeftBehind 86 = .ok (.getfield 23, 3) := by decide +kernel
theorem dX2_keyOfLeftBehind_89 : decode cX2_keyOfLeftBehind 89 = .ok (.bipush 9, 2) := by decide +kernel
theorem dX2_keyOfLeftBehind_91 : decode cX2_keyOfLeftBehind 91 = .ok (.iload_n 3, 1) := by decide +kernel
theorem dX2_keyOfLeftBehind_92 : decode cX2_keyOfLeftBehind 92 = .ok (.iadd, 1) := by decide +kernel
theorem dX2_keyOfLeftBehind_93 : decode cX2_keyOfLeftBehind 93 = .ok (.iaload, 1) := by decide +kernel
theorem dX2_keyOfLeftBehind_94 : decode cX2_keyOfLeftBehind 94 = .ok (.iadd, 1) := by decide +kernel
theorem dX2_keyOfLeftBehind_95 : decode cX2_keyOfLeftBehind 95 = .ok (.istore 4, 2) := by decide +kernel
theorem dX2_keyOfLeftBehind_97 : decode cX2_keyOfLeftBehind 97 = .ok (.iload_n 2, 1) := by decide +kernel
theorem dX2_keyOfLeftBehind_98 : decode cX2_keyOfLeftBehind 98 = .ok (.iconst 4, 1) := by decide +kernel
theorem dX2_keyOfLeftBehind_99 : decode cX2_keyOfLeftBehind 99 = .ok (.ishl, 1) := by decide +kernel
theorem dX2_keyOfLeftBehind_100 : decode cX2_keyOfLeftBehind 100 = .ok (.iload 4, 2) := by decide +kernel
theorem dX2_keyOfLeftBehind_102 : decode cX2_keyOfLeftBehind 102 = .ok (.bipush 12, 2) := by decide +kernel
theorem dX2_keyOfLeftBehind_104 : decode cX2_keyOfLeftBehind 104 = .ok (.invokestatic 56, 3) := by decide +kernel
theorem dX2_keyOfLeftBehind_107 : decode cX2_keyOfLeftBehind 107 = .ok (.iadd, 1) := by decide +kernel
theorem dX2_keyOfLeftBehind_108 : decode cX2_keyOfLeftBehind 108 = .ok (.istore_n 2, 1) := by decide +kernel
theorem dX2_keyOfLeftBehind_109 : decode cX2_keyOfLeftBehind 109 = .ok (.iinc 3 1, 3) := by decide +kernel
theorem dX2_keyOfLeftBehind_112 : decode cX2_keyOfLeftBehind 112 = .ok (.goto (-44), 3) := by decide +kernel
theorem dX2_keyOfLeftBehind_115 : decode cX2_keyOfLeftBehind 115 = .ok (.iload_n 2, 1) := by decide +kernel
theorem dX2_keyOfLeftBehind_116 : decode cX2_keyOfLeftBehind 116 = .ok (.ireturn, 1) := by decide +kernel
theorem dX2_timesColumn_0 : decode cX2_timesColumn 0 = .ok (.aload_n 0, 1) := by decide +kernel
theorem dX2_timesColumn_1 : decode cX2_timesColumn 1 = .ok (.getfield 23, 3) := by decide +kernel
theorem dX2_timesColumn_4 : decode cX2_timesColumn 4 = .ok (.iload_n 1, 1) := by decide +kernel
theorem dX2_timesColumn_5 : decode cX2_timesColumn 5 = .ok (.iaload, 1) := by decide +kernel
theorem dX2_timesColumn_6 : decode cX2_timesColumn 6 = .ok (.aload_n 0, 1) := by decide +kernel
theorem dX2_timesColumn_7 : decode cX2_timesColumn 7 = .ok (.getfield 13, 3) := by decide +kernel
theorem dX2_timesColumn_10 : decode cX2_timesColumn 10 = .ok (.iload_n 2, 1) := by decide +kernel
theorem dX2_timesColumn_11 : decode cX2_timesColumn 11 = .ok (.iaload, 1) := by decide +kernel
theorem dX2_timesColumn_12 : decode cX2_timesColumn 12 = .ok (.imul, 1) := by decide +kernel
theorem dX2_timesColumn_13 : decode cX2_timesColumn 13 = .ok (.aload_n 0, 1) := by decide +kernel
theorem dX2_timesColumn_14 : decode cX2_timesColumn 14 = .ok (.getfield 23, 3) := by decide +kernel
theorem dX2_timesColumn_17 : decode cX2_timesColumn 17 = .ok (.iload_n 1, 1) := by decide +kernel
theorem dX2_timesColumn_18 : decode cX2_timesColumn 18 = .ok (.iconst 1, 1) := by decide +kernel
theorem dX2_timesColumn_19 : decode cX2_timesColumn 19 = .ok (.iadd, 1) := by decide +kernel
theorem dX2_timesColumn_20 : decode cX2_timesColumn 20 = .ok (.iaload, 1) := by decide +kernel
theorem dX2_timesColumn_21 : decode cX2_timesColumn 21 = .ok (.aload_n 0, 1) := by decide +kernel
theorem dX2_timesColumn_22 : decode cX2_timesColumn 22 = .ok (.getfield 13, 3) := by decide +kernel
theorem dX2_timesColumn_25 : decode cX2_timesColumn 25 = .ok (.iload_n 2, 1) := by decide +kernel
theorem dX2_timesColumn_26 : decode cX2_timesColumn 26 = .ok (.iload_n 3, 1) := by decide +kernel
theorem dX2_timesColumn_27 : decode cX2_timesColumn 27 = .ok (.iadd, 1) := by decide +kernel
theorem dX2_timesColumn_28 : decode cX2_timesColumn 28 = .ok (.iaload, 1) := by decide +kernel
theorem dX2_timesColumn_29 : decode cX2_timesColumn 29 = .ok (.imul, 1) := by decide +kernel
theorem dX2_timesColumn_30 : decode cX2_timesColumn 30 = .ok (.iadd, 1) := by decide +kernel
theorem dX2_timesColumn_31 : decode cX2_timesColumn 31 = .ok (.aload_n 0, 1) := by decide +kernel
theorem dX2_timesColumn_32 : decode cX2_timesColumn 32 = .ok (.getfield 23, 3) := by decide +kernel
theorem dX2_timesColumn_35 : decode cX2_timesColumn 35 = .ok (.iload_n 1, 1) := by decide +kernel
theorem dX2_timesColumn_36 : decode cX2_timesColumn 36 = .ok (.iconst 2, 1) := by decide +kernel
theorem dX2_timesColumn_37 : decode cX2_timesColumn 37 = .ok (.iadd, 1) := by decide +kernel
theorem dX2_timesColumn_38 : decode cX2_timesColumn 38 = .ok (.iaload, 1) := by decide +kernel
theorem dX2_timesColumn_39 : decode cX2_timesColumn 39 = .ok (.aload_n 0, 1) := by decide +kernel
theorem dX2_timesColumn_40 : decode cX2_timesColumn 40 = .ok (.getfield 13, 3) := by decide +kernel
theorem dX2_timesColumn_43 : decode cX2_timesColumn 43 = .ok (.iload_n 2, 1) := by decide +kernel
theorem dX2_timesColumn_44 : decode cX2_timesColumn 44 = .ok (.iconst 2, 1) := by decide +kernel
theorem dX2_timesColumn_45 : decode cX2_timesColumn 45 = .ok (.iload_n 3, 1) := by decide +kernel
theorem dX2_timesColumn_46 : decode cX2_timesColumn 46 = .ok (.imul, 1) := by decide +kernel
theorem dX2_timesColumn_47 : decode cX2_timesColumn 47 = .ok (.iadd, 1) := by decide +kernel
theorem dX2_timesColumn_48 : decode cX2_timesColumn 48 = .ok (.iaload, 1) := by decide +kernel
theorem dX2_timesColumn_49 : decode cX2_timesColumn 49 = .ok (.imul, 1) := by decide +kernel
theorem dX2_timesColumn_50 : decode cX2_timesColumn 50 = .ok (.iadd, 1) := by decide +kernel
theorem dX2_timesColumn_51 : decode cX2_timesColumn 51 = .ok (.ireturn, 1) := by decide +kernel
theorem dX2_keep_0 : decode cX2_keep 0 = .ok (.aload_n 0, 1) := by decide +kernel
theorem dX2_keep_1 : decode cX2_keep 1 = .ok (.iload_n 1, 1) := by decide +kernel
theorem dX2_keep_2 : decode cX2_keep 2 = .ok (.invokevirtual 62, 3) := by decide +kernel
theorem dX2_keep_5 : decode cX2_keep 5 = .ok (.istore_n 2, 1) := by decide +kernel
theorem dX2_keep_6 : decode cX2_keep 6 = .ok (.iload_n 2, 1) := by decide +kernel
theorem dX2_keep_7 : decode cX2_keep 7 = .ok (.aload_n 0, 1) := by decide +kernel
theorem dX2_keep_8 : decode cX2_keep 8 = .ok (.getfield 36, 3) := by decide +kernel
theorem dX2_keep_11 : decode cX2_keep 11 = .ok (.if_icmp .ge 15, 3) := by decide +kernel
theorem dX2_keep_14 : decode cX2_keep 14 = .ok (.aload_n 0, 1) := by decide +kernel
theorem dX2_keep_15 : decode cX2_keep 15 = .ok (.getfield 20, 3) := by decide +kernel
theorem dX2_keep_18 : decode cX2_keep 18 = .ok (.iload_n 2, 1) := by decide +kernel
theorem dX2_keep_19 : decode cX2_keep 19 = .ok (.iaload, 1) := by decide +kernel
theorem dX2_keep_20 : decode cX2_keep 20 = .ok (.iload_n 1, 1) := by decide +kernel
theorem dX2_keep_21 : decode cX2_keep 21 = .ok (.if_icmp .ne 5, 3) := by decide +kernel
theorem dX2_keep_24 : decode cX2_keep 24 = .ok (.iconst 1, 1) := by decide +kernel
theorem dX2_keep_25 : decode cX2_keep 25 = .ok (.ireturn, 1) := by decide +kernel
theorem dX2_keep_26 : decode cX2_keep 26 = .ok (.aload_n 0, 1) := by decide +kernel
theorem dX2_keep_27 : decode cX2_keep 27 = .ok (.getfield 36, 3) := by decide +kernel
theorem dX2_keep_30 : decode cX2_keep 30 = .ok (.sipush 192, 3) := by decide +kernel
theorem dX2_keep_33 : decode cX2_keep 33 = .ok (.if_icmp .lt 5, 3) := by decide +kernel
theorem dX2_keep_36 : decode cX2_keep 36 = .ok (.iconst 0, 1) := by decide +kernel
theorem dX2_keep_37 : decode cX2_keep 37 = .ok (.ireturn, 1) := by decide +kernel
theorem dX2_keep_38 : decode cX2_keep 38 = .ok (.aload_n 0, 1) := by decide +kernel
theorem dX2_keep_39 : decode cX2_keep 39 = .ok (.getfield 20, 3) := by decide +kernel
theorem dX2_keep_42 : decode cX2_keep 42 = .ok (.iload_n 2, 1) := by decide +kernel
theorem dX2_keep_43 : decode cX2_keep 43 = .ok (.aload_n 0, 1) := by decide +kernel
theorem dX2_keep_44 : decode cX2_keep 44 = .ok (.getfield 20, 3) := by decide +kernel
theorem dX2_keep_47 : decode cX2_keep 47 = .ok (.iload_n 2, 1) := by decide +kernel
theorem dX2_keep_48 : decode cX2_keep 48 = .ok (.iconst 1, 1) := by decide +kernel
theorem dX2_keep_49 : decode cX2_keep 49 = .ok (.iadd, 1) := by decide +kernel
theorem dX2_keep_50 : decode cX2_keep 50 = .ok (.aload_n 0, 1) := by decide +kernel
theorem dX2_keep_51 : decode cX2_keep 51 = .ok (.getfield 36, 3) := by decide +kernel
theorem dX2_keep_54 : decode cX2_keep 54 = .ok (.iload_n 2, 1) := by decide +kernel
theorem dX2_keep_55 : decode cX2_keep 55 = .ok (.isub, 1) := by decide +kernel
theorem dX2_keep_56 : decode cX2_keep 56 = .ok (.invokestatic 30, 3) := by decide +kernel
theorem dX2_keep_59 : decode cX2_keep 59 = .ok (.aload_n 0, 1) := by decide +kernel
theorem dX2_keep_60 : decode cX2_keep 60 = .ok (.getfield 20, 3) := by decide +kernel
theorem dX2_keep_63 : decode cX2_keep 63 = .ok (.iload_n 2, 1) := by decide +kernel
theorem dX2_keep_64 : decode cX2_keep 64 = .ok (.iload_n 1, 1) := by decide +kernel
theorem dX2_keep_65 : decode cX2_keep 65 = .ok (.iastore, 1) := by decide +kernel
theorem dX2_keep_66 : decode cX2_keep 66 = .ok (.aload_n 0, 1) := by decide +kernel
theorem dX2_keep_67 : decode cX2_keep 67 = .ok (.getfield 17, 3) := by decide +kernel
theorem dX2_keep_70 : decode cX2_keep 70 = .ok (.aload_n 0, 1) := by decide +kernel
theorem dX2_keep_71 : decode cX2_keep 71 = .ok (.getfield 36, 3) := by decide +kernel
theorem dX2_keep_74 : decode cX2_keep 74 = .ok (.iload_n 1, 1) := by decide +kernel
theorem dX2_keep_75 : decode cX2_keep 75 = .ok (.iastore, 1) := by decide +kernel
theorem dX2_keep_76 : decode cX2_keep 76 = .ok (.aload_n 0, 1) := by decide +kernel
theorem dX2_keep_77 : decode cX2_keep 77 = .ok (.dup, 1) := by decide +kernel
theorem dX2_keep_78 : decode cX2_keep 78 = .ok (.getfield 36, 3) := by decide +kernel
theorem dX2_keep_81 : decode cX2_keep 81 = .ok (.iconst 1, 1) := by decide +kernel
theorem dX2_keep_82 : decode cX2_keep 82 = .ok (.iadd, 1) := by decide +kernel
theorem dX2_keep_83 : decode cX2_keep 83 = .ok (.putfield 36, 3) := by decide +kernel
theorem dX2_keep_86 : decode cX2_keep 86 = .ok (.iconst 1, 1) := by decide +kernel
theorem dX2_keep_87 : decode cX2_keep 87 = .ok (.ireturn, 1) := by decide +kernel
theorem dX2_placeOf_0 : decode cX2_placeOf 0 = .ok (.iconst 0, 1) := by decide +kernel
theorem dX2_placeOf_1 : decode cX2_placeOf 1 = .ok (.istore_n 2, 1) := by decide +kernel
theorem dX2_placeOf_2 : decode cX2_placeOf 2 = .ok (.aload_n 0, 1) := by decide +kernel
theorem dX2_placeOf_3 : decode cX2_placeOf 3 = .ok (.getfield 36, 3) := by decide +kernel
theorem dX2_placeOf_6 : decode cX2_placeOf 6 = .ok (.istore_n 3, 1) := by decide +kernel
theorem dX2_placeOf_7 : decode cX2_placeOf 7 = .ok (.iconst 0, 1) := by decide +kernel
theorem dX2_placeOf_8 : decode cX2_placeOf 8 = .ok (.istore 4, 2) := by decide +kernel
theorem dX2_placeOf_10 : decode cX2_placeOf 10 = .ok (.iload 4, 2) := by decide +kernel
theorem dX2_placeOf_12 : decode cX2_placeOf 12 = .ok (.bipush 32, 2) := by decide +kernel
theorem dX2_placeOf_14 : decode cX2_placeOf 14 = .ok (.if_icmp .ge 43, 3) := by decide +kernel
theorem dX2_placeOf_17 : decode cX2_placeOf 17 = .ok (.iload_n 2, 1) := by decide +kernel
theorem dX2_placeOf_18 : decode cX2_placeOf 18 = .ok (.iload_n 3, 1) := by decide +kernel
theorem dX2_placeOf_19 : decode cX2_placeOf 19 = .ok (.if_icmp .ge 38, 3) := by decide +kernel
theorem dX2_placeOf_22 : decode cX2_placeOf 22 = .ok (.iload_n 2, 1) := by decide +kernel
theorem dX2_placeOf_23 : decode cX2_placeOf 23 = .ok (.iload_n 3, 1) := by decide +kernel
theorem dX2_placeOf_24 : decode cX2_placeOf 24 = .ok (.iadd, 1) := by decide +kernel
theorem dX2_placeOf_25 : decode cX2_placeOf 25 = .ok (.iconst 2, 1) := by decide +kernel
theorem dX2_placeOf_26 : decode cX2_placeOf 26 = .ok (.idiv, 1) := by decide +kernel
theorem dX2_placeOf_27 : decode cX2_placeOf 27 = .ok (.istore 5, 2) := by decide +kernel
theorem dX2_placeOf_29 : decode cX2_placeOf 29 = .ok (.aload_n 0, 1) := by decide +kernel
theorem dX2_placeOf_30 : decode cX2_placeOf 30 = .ok (.getfield 20, 3) := by decide +kernel
theorem dX2_placeOf_33 : decode cX2_placeOf 33 = .ok (.iload 5, 2) := by decide +kernel
theorem dX2_placeOf_35 : decode cX2_placeOf 35 = .ok (.iaload, 1) := by decide +kernel
theorem dX2_placeOf_36 : decode cX2_placeOf 36 = .ok (.iload_n 1, 1) := by decide +kernel
theorem dX2_placeOf_37 : decode cX2_placeOf 37 = .ok (.if_icmp .ge 11, 3) := by decide +kernel
theorem dX2_placeOf_40 : decode cX2_placeOf 40 = .ok (.iload 5, 2) := by decide +kernel
theorem dX2_placeOf_42 : decode cX2_placeOf 42 = .ok (.iconst 1, 1) := by decide +kernel
theorem dX2_placeOf_43 : decode cX2_placeOf 43 = .ok (.iadd, 1) := by decide +kernel
theorem dX2_placeOf_44 : decode cX2_placeOf 44 = .ok (.istore_n 2, 1) := by decide +kernel
theorem dX2_placeOf_45 : decode cX2_placeOf 45 = .ok (.goto 6, 3) := by decide +kernel
theorem dX2_placeOf_48 : decode cX2_placeOf 48 = .ok (.iload 5, 2) := by decide +kernel
theorem dX2_placeOf_50 : decode cX2_placeOf 50 = .ok (.istore_n 3, 1) := by decide +kernel
theorem dX2_placeOf_51 : decode cX2_placeOf 51 = .ok (.iinc 4 1, 3) := by decide +kernel
theorem dX2_placeOf_54 : decode cX2_placeOf 54 = .ok (.goto (-44), 3) := by decide +kernel
theorem dX2_placeOf_57 : decode cX2_placeOf 57 = .ok (.iload_n 2, 1) := by decide +kernel
theorem dX2_placeOf_58 : decode cX2_placeOf 58 = .ok (.ireturn, 1) := by decide +kernel
theorem dX3_pack_0 : decode cX3_pack 0 = .ok (.iload_n 0, 1) := by decide +kernel
theorem dX3_pack_1 : decode cX3_pack 1 = .ok (.sipush 512, 3) := by decide +kernel
theorem dX3_pack_4 : decode cX3_pack 4 = .ok (.iadd, 1) := by decide +kernel
theorem dX3_pack_5 : decode cX3_pack 5 = .ok (.bipush 20, 2) := by decide +kernel
theorem dX3_pack_7 : decode cX3_pack 7 = .ok (.ishl, 1) := by decide +kernel
theorem dX3_pack_8 : decode cX3_pack 8 = .ok (.iload_n 1, 1) := by decide +kernel
theorem dX3_pack_9 : decode cX3_pack 9 = .ok (.sipush 512, 3) := by decide +kernel
theorem dX3_pack_12 : decode cX3_pack 12 = .ok (.iadd, 1) := by decide +kernel
theorem dX3_pack_13 : decode cX3_pack 13 = .ok (.bipush 10, 2) := by decide +kernel
theorem dX3_pack_15 : decode cX3_pack 15 = .ok (.ishl, 1) := by decide +kernel
theorem dX3_pack_16 : decode cX3_pack 16 = .ok (.iadd, 1) := by decide +kernel
theorem dX3_pack_17 : decode cX3_pack 17 = .ok (.iload_n 2, 1) := by decide +kernel
theorem dX3_pack_18 : decode cX3_pack 18 = .ok (.iadd, 1) := by decide +kernel
theorem dX3_pack_19 : decode cX3_pack 19 = .ok (.sipush 512, 3) := by decide +kernel
theorem dX3_pack_22 : decode cX3_pack 22 = .ok (.iadd, 1) := by decide +kernel
theorem dX3_pack_23 : decode cX3_pack 23 = .ok (.ireturn, 1) := by decide +kernel
theorem dX3_part_0 : decode cX3_part 0 = .ok (.iload_n 0, 1) := by decide +kernel
theorem dX3_part_1 : decode cX3_part 1 = .ok (.bipush 20, 2) := by decide +kernel
theorem dX3_part_3 : decode cX3_part 3 = .ok (.bipush 10, 2) := by decide +kernel
theorem dX3_part_5 : decode cX3_part 5 = .ok (.iload_n 1, 1) := by decide +kernel
theorem dX3_part_6 : decode cX3_part 6 = .ok (.imul, 1) := by decide +kernel
theorem dX3_part_7 : decode cX3_part 7 = .ok (.isub, 1) := by decide +kernel
theorem dX3_part_8 : decode cX3_part 8 = .ok (.ishr, 1) := by decide +kernel
theorem dX3_part_9 : decode cX3_part 9 = .ok (.sipush 1023, 3) := by decide +kernel
theorem dX3_part_12 : decode cX3_part 12 = .ok (.iand, 1) := by decide +kernel
theorem dX3_part_13 : decode cX3_part 13 = .ok (.sipush 512, 3) := by decide +kernel
theorem dX3_part_16 : decode cX3_part 16 = .ok (.isub, 1) := by decide +kernel
theorem dX3_part_17 : decode cX3_part 17 = .ok (.ireturn, 1) := by decide +kernel
theorem dX3_opposite_0 : decode cX3_opposite 0 = .ok (.ldc 9, 2) := by decide +kernel
theorem dX3_opposite_2 : decode cX3_opposite 2 = .ok (.iload_n 0, 1) := by decide +kernel
theorem dX3_opposite_3 : decode cX3_opposite 3 = .ok (.isub, 1) := by decide +kernel
theorem dX3_opposite_4 : decode cX3_opposite 4 = .ok (.ireturn, 1) := by decide +kernel
theorem dX3_isInBox_0 : decode cX3_isInBox 0 = .ok (.iload_n 0, 1) := by decide +kernel
theorem dX3_isInBox_1 : decode cX3_isInBox 1 = .ok (.iload_n 3, 1) := by decide +kernel
theorem dX3_isInBox_2 : decode cX3_isInBox 2 = .ok (.ineg, 1) := by decide +kernel
theorem dX3_isInBox_3 : decode cX3_isInBox 3 = .ok (.if_icmp .lt 34, 3) := by decide +kernel
theorem dX3_isInBox_6 : decode cX3_isInBox 6 = .ok (.iload_n 0, 1) := by decide +kernel
theorem dX3_isInBox_7 : decode cX3_isInBox 7 = .ok (.iload_n 3, 1) := by decide +kernel
theorem dX3_isInBox_8 : decode cX3_isInBox 8 = .ok (.if_icmp .gt 29, 3) := by decide +kernel
theorem dX3_isInBox_11 : decode cX3_isInBox 11 = .ok (.iload_n 1, 1) := by decide +kernel
theorem dX3_isInBox_12 : decode cX3_isInBox 12 = .ok (.iload_n 3, 1) := by decide +kernel
theorem dX3_isInBox_13 : decode cX3_isInBox 13 = .ok (.ineg, 1) := by decide +kernel
theorem dX3_isInBox_14 : decode cX3_isInBox 14 = .ok (.if_icmp .lt 23, 3) := by decide +kernel
theorem dX3_isInBox_17 : decode cX3_isInBox 17 = .ok (.iload_n 1, 1) := by decide +kernel
theorem dX3_isInBox_18 : decode cX3_isInBox 18 = .ok (.iload_n 3, 1) := by decide +kernel
theorem dX3_isInBox_19 : decode cX3_isInBox 19 = .ok (.if_icmp .gt 18, 3) := by decide +kernel
theorem dX3_isInBox_22 : decode cX3_isInBox 22 = .ok (.iload_n 2, 1) := by decide +kernel
theorem dX3_isInBox_23 : decode cX3_isInBox 23 = .ok (.iload_n 3, 1) := by decide +kernel
theorem dX3_isInBox_24 : decode cX3_isInBox 24 = .ok (.ineg, 1) := by decide +kernel
theorem dX3_isInBox_25 : decode cX3_isInBox 25 = .ok (.if_icmp .lt 12, 3) := by decide +kernel
theorem dX3_isInBox_28 : decode cX3_isInBox 28 = .ok (.iload_n 2, 1) := by decide +kernel
theorem dX3_isInBox_29 : decode cX3_isInBox 29 = .ok (.iload_n 3, 1) := by decide +kernel
theorem dX3_isInBox_30 : decode cX3_isInBox 30 = .ok (.if_icmp .gt 7, 3) := by decide +kernel
theorem dX3_isInBox_33 : decode cX3_isInBox 33 = .ok (.iconst 1, 1) := by decide +kernel
theorem dX3_isInBox_34 : decode cX3_isInBox 34 = .ok (.goto 4, 3) := by decide +kernel
theorem dX3_isInBox_37 : decode cX3_isInBox 37 = .ok (.iconst 0, 1) := by decide +kernel
theorem dX3_isInBox_38 : decode cX3_isInBox 38 = .ok (.ireturn, 1) := by decide +kernel
theorem dX4_init_0 : decode cX4_init 0 = .ok (.aload_n 0, 1) := by decide +kernel
theorem dX4_init_1 : decode cX4_init 1 = .ok (.invokespecial 1, 3) := by decide +kernel
theorem dX4_init_4 : decode cX4_init 4 = .ok (.aload_n 0, 1) := by decide +kernel
theorem dX4_init_5 : decode cX4_init 5 = .ok (.bipush 20, 2) := by decide +kernel
theorem dX4_init_7 : decode cX4_init 7 = .ok (.newarray .int, 2) := by decide +kernel
theorem dX4_init_9 : decode cX4_init 9 = .ok (.putfield 9, 3) := by decide +kernel
theorem dX4_init_12 : decode cX4_init 12 = .ok (.return_, 1) := by decide +kernel
theorem dX4_set_0 : decode cX4_set 0 = .ok (.iconst 0, 1) := by decide +kernel
theorem dX4_set_1 : decode cX4_set 1 = .ok (.istore_n 2, 1) := by decide +kernel
theorem dX4_set_2 : decode cX4_set 2 = .ok (.iload_n 2, 1) := by decide +kernel
theorem dX4_set_3 : decode cX4_set 3 = .ok (.bipush 20, 2) := by decide +kernel
theorem dX4_set_5 : decode cX4_set 5 = .ok (.if_icmp .ge 16, 3) := by decide +kernel
theorem dX4_set_8 : decode cX4_set 8 = .ok (.aload_n 0, 1) := by decide +kernel
theorem dX4_set_9 : decode cX4_set 9 = .ok (.getfield 9, 3) := by decide +kernel
theorem dX4_set_12 : decode cX4_set 12 = .ok (.iload_n 2, 1) := by decide +kernel
theorem dX4_set_13 : decode cX4_set 13 = .ok (.iconst 0, 1) := by decide +kernel
theorem dX4_set_14 : decode cX4_set 14 = .ok (.iastore, 1) := by decide +kernel
theorem dX4_set_15 : decode cX4_set 15 = .ok (.iinc 2 1, 3) := by decide +kernel
theorem dX4_set_18 : decode cX4_set 18 = .ok (.goto (-16), 3) := by decide +kernel
theorem dX4_set_21 : decode cX4_set 21 = .ok (.aload_n 0, 1) := by decide +kernel
theorem dX4_set_22 : decode cX4_set 22 = .ok (.getfield 9, 3) := by decide +kernel
theorem dX4_set_25 : decode cX4_set 25 = .ok (.iconst 0, 1) := by decide +kernel
theorem dX4_set_26 : decode cX4_set 26 = .ok (.iload_n 1, 1) := by decide +kernel
theorem dX4_set_27 : decode cX4_set 27 = .ok (.ldc 13, 2) := by decide +kernel
theorem dX4_set_29 : decode cX4_set 29 = .ok (.iand, 1) := by decide +kernel
theorem dX4_set_30 : decode cX4_set 30 = .ok (.iastore, 1) := by decide +kernel
theorem dX4_set_31 : decode cX4_set 31 = .ok (.return_, 1) := by decide +kernel
theorem dX4_copy_0 : decode cX4_copy 0 = .ok (.aload_n 1, 1) := by decide +kernel
theorem dX4_copy_1 : decode cX4_copy 1 = .ok (.getfield 9, 3) := by decide +kernel
theorem dX4_copy_4 : decode cX4_copy 4 = .ok (.iconst 0, 1) := by decide +kernel
theorem dX4_copy_5 : decode cX4_copy 5 = .ok (.aload_n 0, 1) := by decide +kernel
theorem dX4_copy_6 : decode cX4_copy 6 = .ok (.getfield 9, 3) := by decide +kernel
theorem dX4_copy_9 : decode cX4_copy 9 = .ok (.iconst 0, 1) := by decide +kernel
theorem dX4_copy_10 : decode cX4_copy 10 = .ok (.bipush 20, 2) := by decide +kernel
theorem dX4_copy_12 : decode cX4_copy 12 = .ok (.invokestatic 14, 3) := by decide +kernel
theorem dX4_copy_15 : decode cX4_copy 15 = .ok (.return_, 1) := by decide +kernel
theorem dX4_multiply_0 : decode cX4_multiply 0 = .ok (.lconst 0, 1) := by decide +kernel
theorem dX4_multiply_1 : decode cX4_multiply 1 = .ok (.lstore_n 3, 1) := by decide +kernel
theorem dX4_multiply_2 : decode cX4_multiply 2 = .ok (.iconst 0, 1) := by decide +kernel
theorem dX4_multiply_3 : decode cX4_multiply 3 = .ok (.istore 5, 2) := by decide +kernel
theorem dX4_multiply_5 : decode cX4_multiply 5 = .ok (.iload 5, 2) := by decide +kernel
theorem dX4_multiply_7 : decode cX4_multiply 7 = .ok (.bipush 20, 2) := by decide +kernel
theorem dX4_multiply_9 : decode cX4_multiply 9 = .ok (.if_icmp .ge 40, 3) := by decide +kernel
theorem dX4_multiply_12 : decode cX4_multiply 12 = .ok (.lload_n 3, 1) := by decide +kernel
theorem dX4_multiply_13 : decode cX4_multiply 13 = .ok (.aload_n 0, 1) := by decide +kernel
theorem dX4_multiply_14 : decode cX4_multiply 14 = .ok (.getfield 9, 3) := by decide +kernel
theorem dX4_multiply_17 : decode cX4_multiply 17 = .ok (.iload 5, 2) := by decide +kernel
theorem dX4_multiply_19 : decode cX4_multiply 19 = .ok (.iaload, 1) := by decide +kernel
theorem dX4_multiply_20 : decode cX4_multiply 20 = .ok (.i2l, 1) := by decide +kernel
theorem dX4_multiply_21 : decode cX4_multiply 21 = .ok (.lload_n 1, 1) := by decide +kernel
theorem dX4_multiply_22 : decode cX4_multiply 22 = .ok (.lmul, 1) := by decide +kernel
theorem dX4_multiply_23 : decode cX4_multiply 23 = .ok (.ladd, 1) := by decide +kernel
theorem dX4_multiply_24 : decode cX4_multiply 24 = .ok (.lstore_n 3, 1) := by decide +kernel
theorem dX4_multiply_25 : decode cX4_multiply 25 = .ok (.aload_n 0, 1) := by decide +kernel
theorem dX4_multiply_26 : decode cX4_multiply 26 = .ok (.getfield 9, 3) := by decide +kernel
theorem dX4_multiply_29 : decode cX4_multiply 29 = .ok (.iload 5, 2) := by decide +kernel
theorem dX4_multiply_31 : decode cX4_multiply 31 = .ok (.lload_n 3, 1) := by decide +kernel
theorem dX4_multiply_32 : decode cX4_multiply 32 = .ok (.ldc2_w 20, 3) := by decide +kernel
theorem dX4_multiply_35 : decode cX4_multiply 35 = .ok (.land, 1) := by decide +kernel
theorem dX4_multiply_36 : decode cX4_multiply 36 = .ok (.l2i, 1) := by decide +kernel
theorem dX4_multiply_37 : decode cX4_multiply 37 = .ok (.iastore, 1) := by decide +kernel
theorem dX4_multiply_38 : decode cX4_multiply 38 = .ok (.lload_n 3, 1) := by decide +kernel
theorem dX4_multiply_39 : decode cX4_multiply 39 = .ok (.bipush 16, 2) := by decide +kernel
theorem dX4_multiply_41 : decode cX4_multiply 41 = .ok (.lshr, 1) := by decide +kernel
theorem dX4_multiply_42 : decode cX4_multiply 42 = .ok (.lstore_n 3, 1) := by decide +kernel
theorem dX4_multiply_43 : decode cX4_multiply 43 = .ok (.iinc 5 1, 3) := by decide +kernel
theorem dX4_multiply_46 : decode cX4_multiply 46 = .ok (.goto (-41), 3) := by decide +kernel
theorem dX4_multiply_49 : decode cX4_multiply 49 = .ok (.return_, 1) := by decide +kernel
theorem dX4_addProduct_0 : decode cX4_addProduct 0 = .ok (.lconst 0, 1) := by decide +kernel
theorem dX4_addProduct_1 : decode cX4_addProduct 1 = .ok (.lstore 4, 2) := by decide +kernel
theorem dX4_addProduct_3 : decode cX4_addProduct 3 = .ok (.iconst 0, 1) := by decide +kernel
theorem dX4_addProduct_4 : decode cX4_addProduct 4 = .ok (.istore 6, 2) := by decide +kernel
theorem dX4_addProduct_6 : decode cX4_addProduct 6 = .ok (.iload 6, 2) := by decide +kernel
theorem dX4_addProduct_8 : decode cX4_addProduct 8 = .ok (.bipush 20, 2) := by decide +kernel
theorem dX4_addProduct_10 : decode cX4_addProduct 10 = .ok (.if_icmp .ge 54, 3) := by decide +kernel
theorem dX4_addProduct_13 : decode cX4_addProduct 13 = .ok (.lload 4, 2) := by decide +kernel
theorem dX4_addProduct_15 : decode cX4_addProduct 15 = .ok (.aload_n 0, 1) := by decide +kernel
theorem dX4_addProduct_16 : decode cX4_addProduct 16 = .ok (.getfield 9, 3) := by decide +kernel
theorem dX4_addProduct_19 : decode cX4_addProduct 19 = .ok (.iload 6, 2) := by decide +kernel
theorem dX4_addProduct_21 : decode cX4_addProduct 21 = .ok (.iaload, 1) := by decide +kernel
theorem dX4_addProduct_22 : decode cX4_addProduct 22 = .ok (.i2l, 1) := by decide +kernel
theorem dX4_addProduct_23 : decode cX4_addProduct 23 = .ok (.aload_n 1, 1) := by decide +kernel
theorem dX4_addProduct_24 : decode cX4_addProduct 24 = .ok (.getfield 9, 3) := by decide +kernel
theorem dX4_addProduct_27 : decode cX4_addProduct 27 = .ok (.iload 6, 2) := by decide +kernel
theorem dX4_addProduct_29 : decode cX4_addProduct 29 = .ok (.iaload, 1) := by decide +kernel
theorem dX4_addProduct_30 : decode cX4_addProduct 30 = .ok (.i2l, 1) := by decide +kernel
theorem dX4_addProduct_31 : decode cX4_addProduct 31 = .ok (.lload_n 2, 1) := by decide +kernel
theorem dX4_addProduct_32 : decode cX4_addProduct 32 = .ok (.lmul, 1) := by decide +kernel
theorem dX4_addProduct_33 : decode cX4_addProduct 33 = .ok (.ladd, 1) := by decide +kernel
theorem dX4_addProduct_34 : decode cX4_addProduct 34 = .ok (.ladd, 1) := by decide +kernel
theorem dX4_addProduct_35 : decode cX4_addProduct 35 = .ok (.lstore 4, 2) := by decide +kernel
theorem dX4_addProduct_37 : decode cX4_addProduct 37 = .ok (.aload_n 0, 1) := by decide +kernel
theorem dX4_addProduct_38 : decode cX4_addProduct 38 = .ok (.getfield 9, 3) := by decide +kernel
theorem dX4_addProduct_41 : decode cX4_addProduct 41 = .ok (.iload 6, 2) := by decide +kernel
theorem dX4_addProduct_43 : decode cX4_addProduct 43 = .ok (.lload 4, 2) := by decide +kernel
theorem dX4_addProduct_45 : decode cX4_addProduct 45 = .ok (.ldc2_w 20, 3) := by decide +kernel
theorem dX4_addProduct_48 : decode cX4_addProduct 48 = .ok (.land, 1) := by decide +kernel
theorem dX4_addProduct_49 : decode cX4_addProduct 49 = .ok (.l2i, 1) := by decide +kernel
theorem dX4_addProduct_50 : decode cX4_addProduct 50 = .ok (.iastore, 1) := by decide +kernel
theorem dX4_addProduct_51 : decode cX4_addProduct 51 = .ok (.lload 4, 2) := by decide +kernel
theorem dX4_addProduct_53 : decode cX4_addProduct 53 = .ok (.bipush 16, 2) := by decide +kernel
theorem dX4_addProduct_55 : decode cX4_addProduct 55 = .ok (.lshr, 1) := by decide +kernel
theorem dX4_addProduct_56 : decode cX4_addProduct 56 = .ok (.lstore 4, 2) := by decide +kernel
theorem dX4_addProduct_58 : decode cX4_addProduct 58 = .ok (.iinc 6 1, 3) := by decide +kernel
theorem dX4_addProduct_61 : decode cX4_addProduct 61 = .ok (.goto (-55), 3) := by decide +kernel
theorem dX4_addProduct_64 : decode cX4_addProduct 64 = .ok (.return_, 1) := by decide +kernel
theorem dX4_divide_0 : decode cX4_divide 0 = .ok (.lload_n 1, 1) := by decide +kernel
theorem dX4_divide_1 : decode cX4_divide 1 = .ok (.lconst 1, 1) := by decide +kernel
theorem dX4_divide_2 : decode cX4_divide 2 = .ok (.lcmp, 1) := by decide +kernel
theorem dX4_divide_3 : decode cX4_divide 3 = .ok (.ifCond .ge 4, 3) := by decide +kernel
theorem dX4_divide_6 : decode cX4_divide 6 = .ok (.return_, 1) := by decide +kernel
theorem dX4_divide_7 : decode cX4_divide 7 = .ok (.lconst 0, 1) := by decide +kernel
theorem dX4_divide_8 : decode cX4_divide 8 = .ok (.lstore_n 3, 1) := by decide +kernel
theorem dX4_divide_9 : decode cX4_divide 9 = .ok (.bipush 19, 2) := by decide +kernel
theorem dX4_divide_11 : decode cX4_divide 11 = .ok (.istore 5, 2) := by decide +kernel
theorem dX4_divide_13 : decode cX4_divide 13 = .ok (.iload 5, 2) := by decide +kernel
theorem dX4_divide_15 : decode cX4_divide 15 = .ok (.ifCond .lt 38, 3) := by decide +kernel
theorem dX4_divide_18 : decode cX4_divide 18 = .ok (.lload_n 3, 1) := by decide +kernel
theorem dX4_divide_19 : decode cX4_divide 19 = .ok (.bipush 16, 2) := by decide +kernel
theorem dX4_divide_21 : decode cX4_divide 21 = .ok (.lshl, 1) := by decide +kernel
theorem dX4_divide_22 : decode cX4_divide 22 = .ok (.aload_n 0, 1) := by decide +kernel
theorem dX4_divide_23 : decode cX4_divide 23 = .ok (.getfield 9, 3) := by decide +kernel
theorem dX4_divide_26 : decode cX4_divide 26 = .ok (.iload 5, 2) := by decide +kernel
theorem dX4_divide_28 : decode cX4_divide 28 = .ok (.iaload, 1) := by decide +kernel
theorem dX4_divide_29 : decode cX4_divide 29 = .ok (.i2l, 1) := by decide +kernel
theorem dX4_divide_30 : decode cX4_divide 30 = .ok (.ladd, 1) := by decide +kernel
theorem dX4_divide_31 : decode cX4_divide 31 = .ok (.lstore_n 3, 1) := by decide +kernel
theorem dX4_divide_32 : decode cX4_divide 32 = .ok (.aload_n 0, 1) := by decide +kernel
theorem dX4_divide_33 : decode cX4_divide 33 = .ok (.getfield 9, 3) := by decide +kernel
theorem dX4_divide_36 : decode cX4_divide 36 = .ok (.iload 5, 2) := by decide +kernel
theorem dX4_divide_38 : decode cX4_divide 38 = .ok (.lload_n 3, 1) := by decide +kernel
theorem dX4_divide_39 : decode cX4_divide 39 = .ok (.lload_n 1, 1) := by decide +kernel
theorem dX4_divide_40 : decode cX4_divide 40 = .ok (.ldiv, 1) := by decide +kernel
theorem dX4_divide_41 : decode cX4_divide 41 = .ok (.l2i, 1) := by decide +kernel
theorem dX4_divide_42 : decode cX4_divide 42 = .ok (.iastore, 1) := by decide +kernel
theorem dX4_divide_43 : decode cX4_divide 43 = .ok (.lload_n 3, 1) := by decide +kernel
theorem dX4_divide_44 : decode cX4_divide 44 = .ok (.lload_n 1, 1) := by decide +kernel
theorem dX4_divide_45 : decode cX4_divide 45 = .ok (.lrem, 1) := by decide +kernel
theorem dX4_divide_46 : decode cX4_divide 46 = .ok (.lstore_n 3, 1) := by decide +kernel
theorem dX4_divide_47 : decode cX4_divide 47 = .ok (.iinc 5 (-1), 3) := by decide +kernel
theorem dX4_divide_50 : decode cX4_divide 50 = .ok (.goto (-37), 3) := by decide +kernel
theorem dX4_divide_53 : decode cX4_divide 53 = .ok (.return_, 1) := by decide +kernel
theorem dX4_remainder_0 : decode cX4_remainder 0 = .ok (.lload_n 1, 1) := by decide +kernel
theorem dX4_remainder_1 : decode cX4_remainder 1 = .ok (.lconst 1, 1) := by decide +kernel
theorem dX4_remainder_2 : decode cX4_remainder 2 = .ok (.lcmp, 1) := by decide +kernel
theorem dX4_remainder_3 : decode cX4_remainder 3 = .ok (.ifCond .ge 5, 3) := by decide +kernel
theorem dX4_remainder_6 : decode cX4_remainder 6 = .ok (.lconst 0, 1) := by decide +kernel
theorem dX4_remainder_7 : decode cX4_remainder 7 = .ok (.lreturn, 1) := by decide +kernel
theorem dX4_remainder_8 : decode cX4_remainder 8 = .ok (.lconst 0, 1) := by decide +kernel
theorem dX4_remainder_9 : decode cX4_remainder 9 = .ok (.lstore_n 3, 1) := by decide +kernel
theorem dX4_remainder_10 : decode cX4_remainder 10 = .ok (.bipush 19, 2) := by decide +kernel
theorem dX4_remainder_12 : decode cX4_remainder 12 = .ok (.istore 5, 2) := by decide +kernel
theorem dX4_remainder_14 : decode cX4_remainder 14 = .ok (.iload 5, 2) := by decide +kernel
theorem dX4_remainder_16 : decode cX4_remainder 16 = .ok (.ifCond .lt 25, 3) := by decide +kernel
theorem dX4_remainder_19 : decode cX4_remainder 19 = .ok (.lload_n 3, 1) := by decide +kernel
theorem dX4_remainder_20 : decode cX4_remainder 20 = .ok (.bipush 16, 2) := by decide +kernel
theorem dX4_remainder_22 : decode cX4_remainder 22 = .ok (.lshl, 1) := by decide +kernel
theorem dX4_remainder_23 : decode cX4_remainder 23 = .ok (.aload_n 0, 1) := by decide +kernel
theorem dX4_remainder_24 : decode cX4_remainder 24 = .ok (.getfield 9, 3) := by decide +kernel
theorem dX4_remainder_27 : decode cX4_remainder 27 = .ok (.iload 5, 2) := by decide +kernel
theorem dX4_remainder_29 : decode cX4_remainder 29 = .ok (.iaload, 1) := by decide +kernel
theorem dX4_remainder_30 : decode cX4_remainder 30 = .ok (.i2l, 1) := by decide +kernel
theorem dX4_remainder_31 : decode cX4_remainder 31 = .ok (.ladd, 1) := by decide +kernel
theorem dX4_remainder_32 : decode cX4_remainder 32 = .ok (.lload_n 1, 1) := by decide +kernel
theorem dX4_remainder_33 : decode cX4_remainder 33 = .ok (.lrem, 1) := by decide +kernel
theorem dX4_remainder_34 : decode cX4_remainder 34 = .ok (.lstore_n 3, 1) := by decide +kernel
theorem dX4_remainder_35 : decode cX4_remainder 35 = .ok (.iinc 5 (-1), 3) := by decide +kernel
theorem dX4_remainder_38 : decode cX4_remainder 38 = .ok (.goto (-24), 3) := by decide +kernel
theorem dX4_remainder_41 : decode cX4_remainder 41 = .ok (.lload_n 3, 1) := by decide +kernel
theorem dX4_remainder_42 : decode cX4_remainder 42 = .ok (.lreturn, 1) := by decide +kernel
theorem dX4_digitAt_0 : decode cX4_digitAt 0 = .ok (.iload_n 1, 1) := by decide +kernel
theorem dX4_digitAt_1 : decode cX4_digitAt 1 = .ok (.ifCond .lt 9, 3) := by decide +kernel
theorem dX4_digitAt_4 : decode cX4_digitAt 4 = .ok (.iload_n 1, 1) := by decide +kernel
theorem dX4_digitAt_5 : decode cX4_digitAt 5 = .ok (.bipush 10, 2) := by decide +kernel
theorem dX4_digitAt_7 : decode cX4_digitAt 7 = .ok (.if_icmp .lt 5, 3) := by decide +kernel
theorem dX4_digitAt_10 : decode cX4_digitAt 10 = .ok (.iconst 0, 1) := by decide +kernel
theorem dX4_digitAt_11 : decode cX4_digitAt 11 = .ok (.ireturn, 1) := by decide +kernel
theorem dX4_digitAt_12 : decode cX4_digitAt 12 = .ok (.aload_n 0, 1) := by decide +kernel
theorem dX4_digitAt_13 : decode cX4_digitAt 13 = .ok (.getfield 9, 3) := by decide +kernel
theorem dX4_digitAt_16 : decode cX4_digitAt 16 = .ok (.iconst 2, 1) := by decide +kernel
theorem dX4_digitAt_17 : decode cX4_digitAt 17 = .ok (.iload_n 1, 1) := by decide +kernel
theorem dX4_digitAt_18 : decode cX4_digitAt 18 = .ok (.imul, 1) := by decide +kernel
theorem dX4_digitAt_19 : decode cX4_digitAt 19 = .ok (.iconst 1, 1) := by decide +kernel
theorem dX4_digitAt_20 : decode cX4_digitAt 20 = .ok (.iadd, 1) := by decide +kernel
theorem dX4_digitAt_21 : decode cX4_digitAt 21 = .ok (.iaload, 1) := by decide +kernel
theorem dX4_digitAt_22 : decode cX4_digitAt 22 = .ok (.bipush 16, 2) := by decide +kernel
theorem dX4_digitAt_24 : decode cX4_digitAt 24 = .ok (.ishl, 1) := by decide +kernel
theorem dX4_digitAt_25 : decode cX4_digitAt 25 = .ok (.aload_n 0, 1) := by decide +kernel
theorem dX4_digitAt_26 : decode cX4_digitAt 26 = .ok (.getfield 9, 3) := by decide +kernel
theorem dX4_digitAt_29 : decode cX4_digitAt 29 = .ok (.iconst 2, 1) := by decide +kernel
theorem dX4_digitAt_30 : decode cX4_digitAt 30 = .ok (.iload_n 1, 1) := by decide +kernel
theorem dX4_digitAt_31 : decode cX4_digitAt 31 = .ok (.imul, 1) := by decide +kernel
theorem dX4_digitAt_32 : decode cX4_digitAt 32 = .ok (.iaload, 1) := by decide +kernel
theorem dX4_digitAt_33 : decode cX4_digitAt 33 = .ok (.iadd, 1) := by decide +kernel
theorem dX4_digitAt_34 : decode cX4_digitAt 34 = .ok (.ireturn, 1) := by decide +kernel
theorem dX4_countDigits_0 : decode cX4_countDigits 0 = .ok (.bipush 10, 2) := by decide +kernel
theorem dX4_countDigits_2 : decode cX4_countDigits 2 = .ok (.istore_n 1, 1) := by decide +kernel
theorem dX4_countDigits_3 : decode cX4_countDigits 3 = .ok (.iload_n 1, 1) := by decide +kernel
theorem dX4_countDigits_4 : decode cX4_countDigits 4 = .ok (.ifCond .le 21, 3) := by decide +kernel
theorem dX4_countDigits_7 : decode cX4_countDigits 7 = .ok (.aload_n 0, 1) := by decide +kernel
theorem dX4_countDigits_8 : decode cX4_countDigits 8 = .ok (.iload_n 1, 1) := by decide +kernel
theorem dX4_countDigits_9 : decode cX4_countDigits 9 = .ok (.iconst 1, 1) := by decide +kernel
theorem dX4_countDigits_10 : decode cX4_countDigits 10 = .ok (.isub, 1) := by decide +kernel
theorem dX4_countDigits_11 : decode cX4_countDigits 11 = .ok (.invokevirtual 22, 3) := by decide +kernel
theorem dX4_countDigits_14 : decode cX4_countDigits 14 = .ok (.ifCond .eq 5, 3) := by decide +kernel
theorem dX4_countDigits_17 : decode cX4_countDigits 17 = .ok (.iload_n 1, 1) := by decide +kernel
theorem dX4_countDigits_18 : decode cX4_countDigits 18 = .ok (.ireturn, 1) := by decide +kernel
theorem dX4_countDigits_19 : decode cX4_countDigits 19 = .ok (.iinc 1 (-1), 3) := by decide +kernel
theorem dX4_countDigits_22 : decode cX4_countDigits 22 = .ok (.goto (-19), 3) := by decide +kernel
theorem dX4_countDigits_25 : decode cX4_countDigits 25 = .ok (.iconst 0, 1) := by decide +kernel
theorem dX4_countDigits_26 : decode cX4_countDigits 26 = .ok (.ireturn, 1) := by decide +kernel
theorem dX5_init_0 : decode cX5_init 0 = .ok (.aload_n 0, 1) := by decide +kernel
theorem dX5_init_1 : decode cX5_init 1 = .ok (.invokespecial 1, 3) := by decide +kernel
theorem dX5_init_4 : decode cX5_init 4 = .ok (.aload_n 0, 1) := by decide +kernel
theorem dX5_init_5 : decode cX5_init 5 = .ok (.new 7, 3) := by decide +kernel
theorem dX5_init_8 : decode cX5_init 8 = .ok (.dup, 1) := by decide +kernel
theorem dX5_init_9 : decode cX5_init 9 = .ok (.invokespecial 9, 3) := by decide +kernel
theorem dX5_init_12 : decode cX5_init 12 = .ok (.putfield 10, 3) := by decide +kernel
theorem dX5_init_15 : decode cX5_init 15 = .ok (.aload_n 0, 1) := by decide +kernel
theorem dX5_init_16 : decode cX5_init 16 = .ok (.new 7, 3) := by decide +kernel
theorem dX5_init_19 : decode cX5_init 19 = .ok (.dup, 1) := by decide +kernel
theorem dX5_init_20 : decode cX5_init 20 = .ok (.invokespecial 9, 3) := by decide +kernel
theorem dX5_init_23 : decode cX5_init 23 = .ok (.putfield 16, 3) := by decide +kernel
theorem dX5_init_26 : decode cX5_init 26 = .ok (.aload_n 0, 1) := by decide +kernel
theorem dX5_init_27 : decode cX5_init 27 = .ok (.new 7, 3) := by decide +kernel
theorem dX5_init_30 : decode cX5_init 30 = .ok (.dup, 1) := by decide +kernel
theorem dX5_init_31 : decode cX5_init 31 = .ok (.invokespecial 9, 3) := by decide +kernel
theorem dX5_init_34 : decode cX5_init 34 = .ok (.putfield 19, 3) := by decide +kernel
theorem dX5_init_37 : decode cX5_init 37 = .ok (.return_, 1) := by decide +kernel
theorem dX5_clear_0 : decode cX5_clear 0 = .ok (.aload_n 0, 1) := by decide +kernel
theorem dX5_clear_1 : decode cX5_clear 1 = .ok (.getfield 10, 3) := by decide +kernel
theorem dX5_clear_4 : decode cX5_clear 4 = .ok (.iconst 0, 1) := by decide +kernel
theorem dX5_clear_5 : decode cX5_clear 5 = .ok (.invokevirtual 22, 3) := by decide +kernel
theorem dX5_clear_8 : decode cX5_clear 8 = .ok (.aload_n 0, 1) := by decide +kernel
theorem dX5_clear_9 : decode cX5_clear 9 = .ok (.getfield 16, 3) := by decide +kernel
theorem dX5_clear_12 : decode cX5_clear 12 = .ok (.iconst 1, 1) := by decide +kernel
theorem dX5_clear_13 : decode cX5_clear 13 = .ok (.invokevirtual 22, 3) := by decide +kernel
theorem dX5_clear_16 : decode cX5_clear 16 = .ok (.aload_n 0, 1) := by decide +kernel
theorem dX5_clear_17 : decode cX5_clear 17 = .ok (.iconst 0, 1) := by decide +kernel
theorem dX5_clear_18 : decode cX5_clear 18 = .ok (.putfield 26, 3) := by decide +kernel
theorem dX5_clear_21 : decode cX5_clear 21 = .ok (.aload_n 0, 1) := by decide +kernel
theorem dX5_clear_22 : decode cX5_clear 22 = .ok (.iconst 0, 1) := by decide +kernel
theorem dX5_clear_23 : decode cX5_clear 23 = .ok (.putfield 30, 3) := by decide +kernel
theorem dX5_clear_26 : decode cX5_clear 26 = .ok (.return_, 1) := by decide +kernel
theorem dX5_part_0 : decode cX5_part 0 = .ok (.iload_n 1, 1) := by decide +kernel
theorem dX5_part_1 : decode cX5_part 1 = .ok (.ifCond .ne 10, 3) := by decide +kernel
theorem dX5_part_4 : decode cX5_part 4 = .ok (.aload_n 0, 1) := by decide +kernel
theorem dX5_part_5 : decode cX5_part 5 = .ok (.getfield 10, 3) := by decide +kernel
theorem dX5_part_8 : decode cX5_part 8 = .ok (.goto 7, 3) := by decide +kernel
theorem dX5_part_11 : decode cX5_part 11 = .ok (.aload_n 0, 1) := by decide +kernel
theorem dX5_part_12 : decode cX5_part 12 = .ok (.getfield 16, 3) := by decide +kernel
theorem dX5_part_15 : decode cX5_part 15 = .ok (.areturn, 1) := by decide +kernel
theorem dX5_add_0 : decode cX5_add 0 = .ok (.iload_n 3, 1) := by decide +kernel
theorem dX5_add_1 : decode cX5_add 1 = .ok (.iconst 1, 1) := by decide +kernel
theorem dX5_add_2 : decode cX5_add 2 = .ok (.if_icmp .ge 4, 3) := by decide +kernel
theorem dX5_add_5 : decode cX5_add 5 = .ok (.return_, 1) := by decide +kernel
theorem dX5_add_6 : decode cX5_add 6 = .ok (.aload_n 0, 1) := by decide +kernel
theorem dX5_add_7 : decode cX5_add 7 = .ok (.aload_n 0, 1) := by decide +kernel
theorem dX5_add_8 : decode cX5_add 8 = .ok (.getfield 26, 3) := by decide +kernel
theorem dX5_add_11 : decode cX5_add 11 = .ok (.iload_n 3, 1) := by decide +kernel
theorem dX5_add_12 : decode cX5_add 12 = .ok (.invokestatic 34, 3) := by decide +kernel
theorem dX5_add_15 : decode cX5_add 15 = .ok (.putfield 26, 3) := by decide +kernel
theorem dX5_add_18 : decode cX5_add 18 = .ok (.lload_n 1, 1) := by decide +kernel
theorem dX5_add_19 : decode cX5_add 19 = .ok (.iload_n 3, 1) := by decide +kernel
theorem dX5_add_20 : decode cX5_add 20 = .ok (.i2l, 1) := by decide +kernel
theorem dX5_add_21 : decode cX5_add 21 = .ok (.invokestatic 40, 3) := by decide +kernel
theorem dX5_add_24 : decode cX5_add 24 = .ok (.lstore 4, 2) := by decide +kernel
theorem dX5_add_26 : decode cX5_add 26 = .ok (.lload_n 1, 1) := by decide +kernel
theorem dX5_add_27 : decode cX5_add 27 = .ok (.lload 4, 2) := by decide +kernel
theorem dX5_add_29 : decode cX5_add 29 = .ok (.ldiv, 1) := by decide +kernel
theorem dX5_add_30 : decode cX5_add 30 = .ok (.lstore 6, 2) := by decide +kernel
theorem dX5_add_32 : decode cX5_add 32 = .ok (.iload_n 3, 1) := by decide +kernel
theorem dX5_add_33 : decode cX5_add 33 = .ok (.i2l, 1) := by decide +kernel
theorem dX5_add_34 : decode cX5_add 34 = .ok (.lload 4, 2) := by decide +kernel
theorem dX5_add_36 : decode cX5_add 36 = .ok (.ldiv, 1) := by decide +kernel
theorem dX5_add_37 : decode cX5_add 37 = .ok (.lstore 8, 2) := by decide +kernel
theorem dX5_add_39 : decode cX5_add 39 = .ok (.aload_n 0, 1) := by decide +kernel
theorem dX5_add_40 : decode cX5_add 40 = .ok (.getfield 16, 3) := by decide +kernel
theorem dX5_add_43 : decode cX5_add 43 = .ok (.lload 8, 2) := by decide +kernel
theorem dX5_add_45 : decode cX5_add 45 = .ok (.invokevirtual 46, 3) := by decide +kernel
theorem dX5_add_48 : decode cX5_add 48 = .ok (.lload 8, 2) := by decide +kernel
theorem dX5_add_50 : decode cX5_add 50 = .ok (.invokestatic 40, 3) := by decide +kernel
theorem dX5_add_53 : decode cX5_add 53 = .ok (.lstore 10, 2) := by decide +kernel
theorem dX5_add_55 : decode cX5_add 55 = .ok (.aload_n 0, 1) := by decide +kernel
theorem dX5_add_56 : decode cX5_add 56 = .ok (.getfield 19, 3) := by decide +kernel
theorem dX5_add_59 : decode cX5_add 59 = .ok (.aload_n 0, 1) := by decide +kernel
theorem dX5_add_60 : decode cX5_add 60 = .ok (.getfield 16, 3) := by decide +kernel
theorem dX5_add_63 : decode cX5_add 63 = .ok (.invokevirtual 50, 3) := by decide +kernel
theorem dX5_add_66 : decode cX5_add 66 = .ok (.aload_n 0, 1) := by decide +kernel
theorem dX5_add_67 : decode cX5_add 67 = .ok (.getfield 19, 3) := by decide +kernel
theorem dX5_add_70 : decode cX5_add 70 = .ok (.lload 10, 2) := by decide +kernel
theorem dX5_add_72 : decode cX5_add 72 = .ok (.invokevirtual 54, 3) := by decide +kernel
theorem dX5_add_75 : decode cX5_add 75 = .ok (.aload_n 0, 1) := by decide +kernel
theorem dX5_add_76 : decode cX5_add 76 = .ok (.getfield 10, 3) := by decide +kernel
theorem dX5_add_79 : decode cX5_add 79 = .ok (.lload 8, 2) := by decide +kernel
theorem dX5_add_81 : decode cX5_add 81 = .ok (.lload 10, 2) := by decide +kernel
theorem dX5_add_83 : decode cX5_add 83 = .ok (.ldiv, 1) := by decide +kernel
theorem dX5_add_84 : decode cX5_add 84 = .ok (.invokevirtual 58, 3) := by decide +kernel
theorem dX5_add_87 : decode cX5_add 87 = .ok (.aload_n 0, 1) := by decide +kernel
theorem dX5_add_88 : decode cX5_add 88 = .ok (.getfield 10, 3) := by decide +kernel
theorem dX5_add_91 : decode cX5_add 91 = .ok (.aload_n 0, 1) := by decide +kernel
theorem dX5_add_92 : decode cX5_add 92 = .ok (.getfield 19, 3) := by decide +kernel
theorem dX5_add_95 : decode cX5_add 95 = .ok (.lload 6, 2) := by decide +kernel
theorem dX5_add_97 : decode cX5_add 97 = .ok (.invokevirtual 61, 3) := by decide +kernel
theorem dX5_add_100 : decode cX5_add 100 = .ok (.aload_n 0, 1) := by decide +kernel
theorem dX5_add_101 : decode cX5_add 101 = .ok (.getfield 16, 3) := by decide +kernel
theorem dX5_add_104 : decode cX5_add 104 = .ok (.lload 8, 2) := by decide +kernel
theorem dX5_add_106 : decode cX5_add 106 = .ok (.lload 10, 2) := by decide +kernel
theorem dX5_add_108 : decode cX5_add 108 = .ok (.ldiv, 1) := by decide +kernel
theorem dX5_add_109 : decode cX5_add 109 = .ok (.invokevirtual 58, 3) := by decide +kernel
theorem dX5_add_112 : decode cX5_add 112 = .ok (.return_, 1) := by decide +kernel
theorem dX5_divideBy_0 : decode cX5_divideBy 0 = .ok (.lload_n 1, 1) := by decide +kernel
theorem dX5_divideBy_1 : decode cX5_divideBy 1 = .ok (.lconst 0, 1) := by decide +kernel
theorem dX5_divideBy_2 : decode cX5_divideBy 2 = .ok (.lcmp, 1) := by decide +kernel
theorem dX5_divideBy_3 : decode cX5_divideBy 3 = .ok (.ifCond .gt 4, 3) := by decide +kernel
theorem dX5_divideBy_6 : decode cX5_divideBy 6 = .ok (.return_, 1) := by decide +kernel
theorem dX5_divideBy_7 : decode cX5_divideBy 7 = .ok (.aload_n 0, 1) := by decide +kernel
theorem dX5_divideBy_8 : decode cX5_divideBy 8 = .ok (.invokevirtual 65, 3) := by decide +kernel
theorem dX5_divideBy_11 : decode cX5_divideBy 11 = .ok (.aload_n 0, 1) := by decide +kernel
theorem dX5_divideBy_12 : decode cX5_divideBy 12 = .ok (.getfield 10, 3) := by decide +kernel
theorem dX5_divideBy_15 : decode cX5_divideBy 15 = .ok (.lload_n 1, 1) := by decide +kernel
theorem dX5_divideBy_16 : decode cX5_divideBy 16 = .ok (.invokevirtual 46, 3) := by decide +kernel
theorem dX5_divideBy_19 : decode cX5_divideBy 19 = .ok (.lload_n 1, 1) := by decide +kernel
theorem dX5_divideBy_20 : decode cX5_divideBy 20 = .ok (.invokestatic 40, 3) := by decide +kernel
theorem dX5_divideBy_23 : decode cX5_divideBy 23 = .ok (.lstore_n 3, 1) := by decide +kernel
theorem dX5_divideBy_24 : decode cX5_divideBy 24 = .ok (.aload_n 0, 1) := by decide +kernel
theorem dX5_divideBy_25 : decode cX5_divideBy 25 = .ok (.getfield 10, 3) := by decide +kernel
theorem dX5_divideBy_28 : decode cX5_divideBy 28 = .ok (.lload_n 3, 1) := by decide +kernel
theorem dX5_divideBy_29 : decode cX5_divideBy 29 = .ok (.invokevirtual 54, 3) := by decide +kernel
theorem dX5_divideBy_32 : decode cX5_divideBy 32 = .ok (.aload_n 0, 1) := by decide +kernel
theorem dX5_divideBy_33 : decode cX5_divideBy 33 = .ok (.getfield 16, 3) := by decide +kernel
theorem dX5_divideBy_36 : decode cX5_divideBy 36 = .ok (.lload_n 1, 1) := by decide +kernel
theorem dX5_divideBy_37 : decode cX5_divideBy 37 = .ok (.lload_n 3, 1) := by decide +kernel
theorem dX5_divideBy_38 : decode cX5_divideBy 38 = .ok (.ldiv, 1) := by decide +kernel
theorem dX5_divideBy_39 : decode cX5_divideBy 39 = .ok (.invokevirtual 58, 3) := by decide +kernel
theorem dX5_divideBy_42 : decode cX5_divideBy 42 = .ok (.aload_n 0, 1) := by decide +kernel
theorem dX5_divideBy_43 : decode cX5_divideBy 43 = .ok (.iconst 1, 1) := by decide +kernel
theorem dX5_divideBy_44 : decode cX5_divideBy 44 = .ok (.putfield 30, 3) := by decide +kernel
theorem dX5_divideBy_47 : decode cX5_divideBy 47 = .ok (.return_, 1) := by decide +kernel
theorem dX5_cancelSmallFactors_0 : decode cX5_cancelSmallFactors 0 = .ok (.iconst 2, 1) := by decide +kernel
theorem dX5_cancelSmallFactors_1 : decode cX5_cancelSmallFactors 1 = .ok (.istore_n 1, 1) := by decide +kernel
theorem dX5_cancelSmallFactors_2 : decode cX5_cancelSmallFactors 2 = .ok (.iload_n 1, 1) := by decide +kernel
theorem dX5_cancelSmallFactors_3 : decode cX5_cancelSmallFactors 3 = .ok (.aload_n 0, 1) := by decide +kernel
theorem dX5_cancelSmallFactors_4 : decode cX5_cancelSmallFactors 4 = .ok (.getfield 26, 3) := by decide +kernel
theorem dX5_cancelSmallFactors_7 : decode cX5_cancelSmallFactors 7 = .ok (.if_icmp .gt 49, 3) := by decide +kernel
theorem dX5_cancelSmallFactors_10 : decode cX5_cancelSmallFactors 10 = .ok (.iconst 0, 1) := by decide +kernel
theorem dX5_cancelSmallFactors_11 : decode cX5_cancelSmallFactors 11 = .ok (.istore_n 2, 1) := by decide +kernel
theorem dX5_cancelSmallFactors_12 : decode cX5_cancelSmallFactors 12 = .ok (.iload_n 2, 1) := by decide +kernel
theorem dX5_cancelSmallFactors_13 : decode cX5_cancelSmallFactors 13 = .ok (.bipush 32, 2) := by decide +kernel
theorem dX5_cancelSmallFactors_15 : decode cX5_cancelSmallFactors 15 = .ok (.if_icmp .ge 35, 3) := by decide +kernel
theorem dX5_cancelSmallFactors_18 : decode cX5_cancelSmallFactors 18 = .ok (.aload_n 0, 1) := by decide +kernel
theorem dX5_cancelSmallFactors_19 : decode cX5_cancelSmallFactors 19 = .ok (.iload_n 1, 1) := by decide +kernel
theorem dX5_cancelSmallFactors_20 : decode cX5_cancelSmallFactors 20 = .ok (.invokevirtual 68, 3) := by decide +kernel
theorem dX5_cancelSmallFactors_23 : decode cX5_cancelSmallFactors 23 = .ok (.ifCond .eq 27, 3) := by decide +kernel
theorem dX5_cancelSmallFactors_26 : decode cX5_cancelSmallFactors 26 = .ok (.aload_n 0, 1) := by decide +kernel
theorem dX5_cancelSmallFactors_27 : decode cX5_cancelSmallFactors 27 = .ok (.getfield 10, 3) := by decide +kernel
theorem dX5_cancelSmallFactors_30 : decode cX5_cancelSmallFactors 30 = .ok (.iload_n 1, 1) := by decide +kernel
theorem dX5_cancelSmallFactors_31 : decode cX5_cancelSmallFactors 31 = .ok (.i2l, 1) := by decide +kernel
theorem dX5_cancelSmallFactors_32 : decode cX5_cancelSmallFactors 32 = .ok (.invokevirtual 54, 3) := by decide +kernel
theorem dX5_cancelSmallFactors_35 : decode cX5_cancelSmallFactors 35 = .ok (.aload_n 0, 1) := by decide +kernel
theorem dX5_cancelSmallFactors_36 : decode cX5_cancelSmallFactors 36 = .ok (.getfield 16, 3) := by decide +kernel
theorem dX5_cancelSmallFactors_39 : decode cX5_cancelSmallFactors 39 = .ok (.iload_n 1, 1) := by decide +kernel
theorem dX5_cancelSmallFactors_40 : decode cX5_cancelSmallFactors 40 = .ok (.i2l, 1) := by decide +kernel
theorem dX5_cancelSmallFactors_41 : decode cX5_cancelSmallFactors 41 = .ok (.invokevirtual 54, 3) := by decide +kernel
theorem dX5_cancelSmallFactors_44 : decode cX5_cancelSmallFactors 44 = .ok (.iinc 2 1, 3) := by decide +kernel
theorem dX5_cancelSmallFactors_47 : decode cX5_cancelSmallFactors 47 = .ok (.goto (-35), 3) := by decide +kernel
theorem dX5_cancelSmallFactors_50 : decode cX5_cancelSmallFactors 50 = .ok (.iinc 1 1, 3) := by decide +kernel
theorem dX5_cancelSmallFactors_53 : decode cX5_cancelSmallFactors 53 = .ok (.goto (-51), 3) := by decide +kernel
theorem dX5_cancelSmallFactors_56 : decode cX5_cancelSmallFactors 56 = .ok (.return_, 1) := by decide +kernel
theorem dX5_cancels_0 : decode cX5_cancels 0 = .ok (.aload_n 0, 1) := by decide +kernel
theorem dX5_cancels_1 : decode cX5_cancels 1 = .ok (.getfield 16, 3) := by decide +kernel
theorem dX5_cancels_4 : decode cX5_cancels 4 = .ok (.iload_n 1, 1) := by decide +kernel
theorem dX5_cancels_5 : decode cX5_cancels 5 = .ok (.i2l, 1) := by decide +kernel
theorem dX5_cancels_6 : decode cX5_cancels 6 = .ok (.invokevirtual 46, 3) := by decide +kernel
theorem dX5_cancels_9 : decode cX5_cancels 9 = .ok (.lconst 0, 1) := by decide +kernel
theorem dX5_cancels_10 : decode cX5_cancels 10 = .ok (.lcmp, 1) := by decide +kernel
theorem dX5_cancels_11 : decode cX5_cancels 11 = .ok (.ifCond .ne 21, 3) := by decide +kernel
theorem dX5_cancels_14 : decode cX5_cancels 14 = .ok (.aload_n 0, 1) := by decide +kernel
theorem dX5_cancels_15 : decode cX5_cancels 15 = .ok (.getfield 10, 3) := by decide +kernel
theorem dX5_cancels_18 : decode cX5_cancels 18 = .ok (.iload_n 1, 1) := by decide +kernel
theorem dX5_cancels_19 : decode cX5_cancels 19 = .ok (.i2l, 1) := by decide +kernel
theorem dX5_cancels_20 : decode cX5_cancels 20 = .ok (.invokevirtual 46, 3) := by decide +kernel
theorem dX5_cancels_23 : decode cX5_cancels 23 = .ok (.lconst 0, 1) := by decide +kernel
theorem dX5_cancels_24 : decode cX5_cancels 24 = .ok (.lcmp, 1) := by decide +kernel
theorem dX5_cancels_25 : decode cX5_cancels 25 = .ok (.ifCond .ne 7, 3) := by decide +kernel
theorem dX5_cancels_28 : decode cX5_cancels 28 = .ok (.iconst 1, 1) := by decide +kernel
theorem dX5_cancels_29 : decode cX5_cancels 29 = .ok (.goto 4, 3) := by decide +kernel
theorem dX5_cancels_32 : decode cX5_cancels 32 = .ok (.iconst 0, 1) := by decide +kernel
theorem dX5_cancels_33 : decode cX5_cancels 33 = .ok (.ireturn, 1) := by decide +kernel
theorem dX6_init_0 : decode cX6_init 0 = .ok (.aload_n 0, 1) := by decide +kernel
theorem dX6_init_1 : decode cX6_init 1 = .ok (.invokespecial 3, 3) := by decide +kernel
theorem dX6_init_4 : decode cX6_init 4 = .ok (.aload_n 0, 1) := by decide +kernel
theorem dX6_init_5 : decode cX6_init 5 = .ok (.sipush 3000, 3) := by decide +kernel
theorem dX6_init_8 : decode cX6_init 8 = .ok (.newarray .int, 2) := by decide +kernel
theorem dX6_init_10 : decode cX6_init 10 = .ok (.putfield 9, 3) := by decide +kernel
theorem dX6_init_13 : decode cX6_init 13 = .ok (.aload_n 0, 1) := by decide +kernel
theorem dX6_init_14 : decode cX6_init 14 = .ok (.sipush 3000, 3) := by decide +kernel
theorem dX6_init_17 : decode cX6_init 17 = .ok (.newarray .int, 2) := by decide +kernel
theorem dX6_init_19 : decode cX6_init 19 = .ok (.putfield 15, 3) := by decide +kernel
theorem dX6_init_22 : decode cX6_init 22 = .ok (.aload_n 0, 1) := by decide +kernel
theorem dX6_init_23 : decode cX6_init 23 = .ok (.sipush 3000, 3) := by decide +kernel
theorem dX6_init_26 : decode cX6_init 26 = .ok (.newarray .int, 2) := by decide +kernel
theorem dX6_init_28 : decode cX6_init 28 = .ok (.putfield 18, 3) := by decide +kernel
theorem dX6_init_31 : decode cX6_init 31 = .ok (.return_, 1) := by decide +kernel
theorem dX6_write_0 : decode cX6_write 0 = .ok (.aload_n 0, 1) := by decide +kernel
theorem dX6_write_1 : decode cX6_write 1 = .ok (.getfield 21, 3) := by decide +kernel
theorem dX6_write_4 : decode cX6_write 4 = .ok (.iload_n 1, 1) := by decide +kernel
theorem dX6_write_5 : decode cX6_write 5 = .ok (.iadd, 1) := by decide +kernel
theorem dX6_write_6 : decode cX6_write 6 = .ok (.istore 5, 2) := by decide +kernel
theorem dX6_write_8 : decode cX6_write 8 = .ok (.iload 5, 2) := by decide +kernel
theorem dX6_write_10 : decode cX6_write 10 = .ok (.ifCond .lt 11, 3) := by decide +kernel
theorem dX6_write_13 : decode cX6_write 13 = .ok (.iload 5, 2) := by decide +kernel
theorem dX6_write_15 : decode cX6_write 15 = .ok (.sipush 3000, 3) := by decide +kernel
theorem dX6_write_18 : decode cX6_write 18 = .ok (.if_icmp .lt 5, 3) := by decide +kernel
theorem dX6_write_21 : decode cX6_write 21 = .ok (.iconst 0, 1) := by decide +kernel
theorem dX6_write_22 : decode cX6_write 22 = .ok (.ireturn, 1) := by decide +kernel
theorem dX6_write_23 : decode cX6_write 23 = .ok (.aload_n 0, 1) := by decide +kernel
theorem dX6_write_24 : decode cX6_write 24 = .ok (.getfield 9, 3) := by decide +kernel
theorem dX6_write_27 : decode cX6_write 27 = .ok (.iload 5, 2) := by decide +kernel
theorem dX6_write_29 : decode cX6_write 29 = .ok (.iload_n 2, 1) := by decide +kernel
theorem dX6_write_30 : decode cX6_write 30 = .ok (.iastore, 1) := by decide +kernel
theorem dX6_write_31 : decode cX6_write 31 = .ok (.aload_n 0, 1) := by decide +kernel
theorem dX6_write_32 : decode cX6_write 32 = .ok (.getfield 15, 3) := by decide +kernel
theorem dX6_write_35 : decode cX6_write 35 = .ok (.iload 5, 2) := by decide +kernel
theorem dX6_write_37 : decode cX6_write 37 = .ok (.iload_n 3, 1) := by decide +kernel
theorem dX6_write_38 : decode cX6_write 38 = .ok (.iastore, 1) := by decide +kernel
theorem dX6_write_39 : decode cX6_write 39 = .ok (.aload_n 0, 1) := by decide +kernel
theorem dX6_write_40 : decode cX6_write 40 = .ok (.getfield 18, 3) := by decide +kernel
theorem dX6_write_43 : decode cX6_write 43 = .ok (.iload 5, 2) := by decide +kernel
theorem dX6_write_45 : decode cX6_write 45 = .ok (.iload 4, 2) := by decide +kernel
theorem dX6_write_47 : decode cX6_write 47 = .ok (.iastore, 1) := by decide +kernel
theorem dX6_write_48 : decode cX6_write 48 = .ok (.iconst 1, 1) := by decide +kernel
theorem dX6_write_49 : decode cX6_write 49 = .ok (.ireturn, 1) := by decide +kernel
theorem dX6_number_0 : decode cX6_number 0 = .ok (.iload_n 2, 1) := by decide +kernel
theorem dX6_number_1 : decode cX6_number 1 = .ok (.iconst 3, 1) := by decide +kernel
theorem dX6_number_2 : decode cX6_number 2 = .ok (.if_icmp .ne 10, 3) := by decide +kernel
theorem dX6_number_5 : decode cX6_number 5 = .ok (.aload_n 0, 1) := by decide +kernel
theorem dX6_number_6 : decode cX6_number 6 = .ok (.getfield 15, 3) := by decide +kernel
theorem dX6_number_9 : decode cX6_number 9 = .ok (.iload_n 1, 1) := by decide +kernel
theorem dX6_number_10 : decode cX6_number 10 = .ok (.iaload, 1) := by decide +kernel
theorem dX6_number_11 : decode cX6_number 11 = .ok (.ireturn, 1) := by decide +kernel
theorem dX6_number_12 : decode cX6_number 12 = .ok (.iload_n 2, 1) := by decide +kernel
theorem dX6_number_13 : decode cX6_number 13 = .ok (.iconst 4, 1) := by decide +kernel
theorem dX6_number_14 : decode cX6_number 14 = .ok (.if_icmp .ne 12, 3) := by decide +kernel
theorem dX6_number_17 : decode cX6_number 17 = .ok (.aload_n 0, 1) := by decide +kernel
theorem dX6_number_18 : decode cX6_number 18 = .ok (.getfield 18, 3) := by decide +kernel
theorem dX6_number_21 : decode cX6_number 21 = .ok (.iload_n 1, 1) := by decide +kernel
theorem dX6_number_22 : decode cX6_number 22 = .ok (.iaload, 1) := by decide +kernel
theorem dX6_number_23 : decode cX6_number 23 = .ok (.goto 13, 3) := by decide +kernel
theorem dX6_number_26 : decode cX6_number 26 = .ok (.aload_n 0, 1) := by decide +kernel
theorem dX6_number_27 : decode cX6_number 27 = .ok (.getfield 9, 3) := by decide +kernel
theorem dX6_number_30 : decode cX6_number 30 = .ok (.iload_n 1, 1) := by decide +kernel
theorem dX6_number_31 : decode cX6_number 31 = .ok (.iaload, 1) := by decide +kernel
theorem dX6_number_32 : decode cX6_number 32 = .ok (.iload_n 2, 1) := by decide +kernel
theorem dX6_number_33 : decode cX6_number 33 = .ok (.invokestatic 25, 3) := by decide +kernel
theorem dX6_number_36 : decode cX6_number 36 = .ok (.ireturn, 1) := by decide +kernel
theorem dX7_init_0 : decode cX7_init 0 = .ok (.aload_n 0, 1) := by decide +kernel
theorem dX7_init_1 : decode cX7_init 1 = .ok (.invokespecial 3, 3) := by decide +kernel
theorem dX7_init_4 : decode cX7_init 4 = .ok (.aload_n 0, 1) := by decide +kernel
theorem dX7_init_5 : decode cX7_init 5 = .ok (.sipush 3000, 3) := by decide +kernel
theorem dX7_init_8 : decode cX7_init 8 = .ok (.newarray .long, 2) := by decide +kernel
theorem dX7_init_10 : decode cX7_init 10 = .ok (.putfield 9, 3) := by decide +kernel
theorem dX7_init_13 : decode cX7_init 13 = .ok (.aload_n 0, 1) := by decide +kernel
theorem dX7_init_14 : decode cX7_init 14 = .ok (.sipush 3000, 3) := by decide +kernel
theorem dX7_init_17 : decode cX7_init 17 = .ok (.newarray .int, 2) := by decide +kernel
theorem dX7_init_19 : decode cX7_init 19 = .ok (.putfield 15, 3) := by decide +kernel
theorem dX7_init_22 : decode cX7_init 22 = .ok (.aload_n 0, 1) := by decide +kernel
theorem dX7_init_23 : decode cX7_init 23 = .ok (.sipush 3000, 3) := by decide +kernel
theorem dX7_init_26 : decode cX7_init 26 = .ok (.newarray .int, 2) := by decide +kernel
theorem dX7_init_28 : decode cX7_init 28 = .ok (.putfield 19, 3) := by decide +kernel
theorem dX7_init_31 : decode cX7_init 31 = .ok (.aload_n 0, 1) := by decide +kernel
theorem dX7_init_32 : decode cX7_init 32 = .ok (.sipush 3000, 3) := by decide +kernel
theorem dX7_init_35 : decode cX7_init 35 = .ok (.newarray .int, 2) := by decide +kernel
theorem dX7_init_37 : decode cX7_init 37 = .ok (.putfield 22, 3) := by decide +kernel
theorem dX7_init_40 : decode cX7_init 40 = .ok (.aload_n 0, 1) := by decide +kernel
theorem dX7_init_41 : decode cX7_init 41 = .ok (.sipush 3000, 3) := by decide +kernel
theorem dX7_init_44 : decode cX7_init 44 = .ok (.newarray .boolean, 2) := by decide +kernel
theorem dX7_init_46 : decode cX7_init 46 = .ok (.putfield 25, 3) := by decide +kernel
theorem dX7_init_49 : decode cX7_init 49 = .ok (.aload_n 0, 1) := by decide +kernel
theorem dX7_init_50 : decode cX7_init 50 = .ok (.sipush 3000, 3) := by decide +kernel
theorem dX7_init_53 : decode cX7_init 53 = .ok (.newarray .long, 2) := by decide +kernel
theorem dX7_init_55 : decode cX7_init 55 = .ok (.putfield 29, 3) := by decide +kernel
theorem dX7_init_58 : decode cX7_init 58 = .ok (.aload_n 0, 1) := by decide +kernel
theorem dX7_init_59 : decode cX7_init 59 = .ok (.sipush 3000, 3) := by decide +kernel
theorem dX7_init_62 : decode cX7_init 62 = .ok (.newarray .long, 2) := by decide +kernel
theorem dX7_init_64 : decode cX7_init 64 = .ok (.putfield 32, 3) := by decide +kernel
theorem dX7_init_67 : decode cX7_init 67 = .ok (.aload_n 0, 1) := by decide +kernel
theorem dX7_init_68 : decode cX7_init 68 = .ok (.new 35, 3) := by decide +kernel
theorem dX7_init_71 : decode cX7_init 71 = .ok (.dup, 1) := by decide +kernel
theorem dX7_init_72 : decode cX7_init 72 = .ok (.invokespecial 37, 3) := by decide +kernel
theorem dX7_init_75 : decode cX7_init 75 = .ok (.putfield 38, 3) := by decide +kernel
theorem dX7_init_78 : decode cX7_init 78 = .ok (.return_, 1) := by decide +kernel
theorem dX7_clear_0 : decode cX7_clear 0 = .ok (.aload_n 0, 1) := by decide +kernel
theorem dX7_clear_1 : decode cX7_clear 1 = .ok (.iconst 0, 1) := by decide +kernel
theorem dX7_clear_2 : decode cX7_clear 2 = .ok (.putfield 42, 3) := by decide +kernel
theorem dX7_clear_5 : decode cX7_clear 5 = .ok (.aload_n 0, 1) := by decide +kernel
theorem dX7_clear_6 : decode cX7_clear 6 = .ok (.getfield 38, 3) := by decide +kernel
theorem dX7_clear_9 : decode cX7_clear 9 = .ok (.invokevirtual 46, 3) := by decide +kernel
theorem dX7_clear_12 : decode cX7_clear 12 = .ok (.return_, 1) := by decide +kernel
theorem dX7_mergeAll_0 : decode cX7_mergeAll 0 = .ok (.aload_n 0, 1) := by decide +kernel
theorem dX7_mergeAll_1 : decode cX7_mergeAll 1 = .ok (.invokevirtual 49, 3) := by decide +kernel
theorem dX7_mergeAll_4 : decode cX7_mergeAll 4 = .ok (.aload_n 0, 1) := by decide +kernel
theorem dX7_mergeAll_5 : decode cX7_mergeAll 5 = .ok (.aload_n 1, 1) := by decide +kernel
theorem dX7_mergeAll_6 : decode cX7_mergeAll 6 = .ok (.aload_n 2, 1) := by decide +kernel
theorem dX7_mergeAll_7 : decode cX7_mergeAll 7 = .ok (.invokevirtual 50, 3) := by decide +kernel
theorem dX7_mergeAll_10 : decode cX7_mergeAll 10 = .ok (.aload_n 0, 1) := by decide +kernel
theorem dX7_mergeAll_11 : decode cX7_mergeAll 11 = .ok (.aload_n 1, 1) := by decide +kernel
theorem dX7_mergeAll_12 : decode cX7_mergeAll 12 = .ok (.aload_n 2, 1) := by decide +kernel
theorem dX7_mergeAll_13 : decode cX7_mergeAll 13 = .ok (.invokevirtual 54, 3) := by decide +kernel
theorem dX7_mergeAll_16 : decode cX7_mergeAll 16 = .ok (.aload_n 0, 1) := by decide +kernel
theorem dX7_mergeAll_17 : decode cX7_mergeAll 17 = .ok (.aload_n 1, 1) := by decide +kernel
theorem dX7_mergeAll_18 : decode cX7_mergeAll 18 = .ok (.invokevirtual 57, 3) := by decide +kernel
theorem dX7_mergeAll_21 : decode cX7_mergeAll 21 = .ok (.aload_n 0, 1) := by decide +kernel
theorem dX7_mergeAll_22 : decode cX7_mergeAll 22 = .ok (.invokevirtual 61, 3) := by decide +kernel
theorem dX7_mergeAll_25 : decode cX7_mergeAll 25 = .ok (.return_, 1) := by decide +kernel
theorem dX7_sortByKind_0 : decode cX7_sortByKind 0 = .ok (.iconst 0, 1) := by decide +kernel
theorem dX7_sortByKind_1 : decode cX7_sortByKind 1 = .ok (.istore_n 3, 1) := by decide +kernel
theorem dX7_sortByKind_2 : decode cX7_sortByKind 2 = .ok (.iload_n 3, 1) := by decide +kernel
theorem dX7_sortByKind_3 : decode cX7_sortByKind 3 = .ok (.aload_n 1, 1) := by decide +kernel
theorem dX7_sortByKind_4 : decode cX7_sortByKind 4 = .ok (.getfield 64, 3) := by decide +kernel
theorem dX7_sortByKind_7 : decode cX7_sortByKind 7 = .ok (.if_icmp .ge 56, 3) := by decide +kernel
theorem dX7_sortByKind_10 : decode cX7_sortByKind 10 = .ok (.aload_n 1, 1) := by decide +kernel
theorem dX7_sortByKind_11 : decode cX7_sortByKind 11 = .ok (.getfield 67, 3) := by decide +kernel
theorem dX7_sortByKind_14 : decode cX7_sortByKind 14 = .ok (.iload_n 3, 1) := by decide +kernel
theorem dX7_sortByKind_15 : decode cX7_sortByKind 15 = .ok (.iaload, 1) := by decide +kernel
theorem dX7_sortByKind_16 : decode cX7_sortByKind 16 = .ok (.istore 4, 2) := by decide +kernel
theorem dX7_sortByKind_18 : decode cX7_sortByKind 18 = .ok (.aload_n 2, 1) := by decide +kernel
theorem dX7_sortByKind_19 : decode cX7_sortByKind 19 = .ok (.iload 4, 2) := by decide +kernel
theorem dX7_sortByKind_21 : decode cX7_sortByKind 21 = .ok (.iconst 0, 1) := by decide +kernel
theorem dX7_sortByKind_22 : decode cX7_sortByKind 22 = .ok (.invokestatic 68, 3) := by decide +kernel
theorem dX7_sortByKind_25 : decode cX7_sortByKind 25 = .ok (.iload 4, 2) := by decide +kernel
theorem dX7_sortByKind_27 : decode cX7_sortByKind 27 = .ok (.iconst 1, 1) := by decide +kernel
theorem dX7_sortByKind_28 : decode cX7_sortByKind 28 = .ok (.invokestatic 68, 3) := by decide +kernel
theorem dX7_sortByKind_31 : decode cX7_sortByKind 31 = .ok (.iload 4, 2) := by decide +kernel
theorem dX7_sortByKind_33 : decode cX7_sortByKind 33 = .ok (.iconst 2, 1) := by decide +kernel
theorem dX7_sortByKind_34 : decode cX7_sortByKind 34 = .ok (.invokestatic 68, 3) := by decide +kernel
theorem dX7_sortByKind_37 : decode cX7_sortByKind 37 = .ok (.invokevirtual 74, 3) := by decide +kernel
theorem dX7_sortByKind_40 : decode cX7_sortByKind 40 = .ok (.i2l, 1) := by decide +kernel
theorem dX7_sortByKind_41 : decode cX7_sortByKind 41 = .ok (.lstore 5, 2) := by decide +kernel
theorem dX7_sortByKind_43 : decode cX7_sortByKind 43 = .ok (.aload_n 0, 1) := by decide +kernel
theorem dX7_sortByKind_44 : decode cX7_sortByKind 44 = .ok (.getfield 9, 3) := by decide +kernel
theorem dX7_sortByKind_47 : decode cX7_sortByKind 47 = .ok (.iload_n 3, 1) := by decide +kernel
theorem dX7_sortByKind_48 : decode cX7_sortByKind 48 = .ok (.lload 5, 2) := by decide +kernel
theorem dX7_sortByKind_50 : decode cX7_sortByKind 50 = .ok (.bipush 12, 2) := by decide +kernel
theorem dX7_sortByKind_52 : decode cX7_sortByKind 52 = .ok (.lshl, 1) := by decide +kernel
theorem dX7_sortByKind_53 : decode cX7_sortByKind 53 = .ok (.iload_n 3, 1) := by decide +kernel
theorem dX7_sortByKind_54 : decode cX7_sortByKind 54 = .ok (.i2l, 1) := by decide +kernel
theorem dX7_sortByKind_55 : decode cX7_sortByKind 55 = .ok (.ladd, 1) := by decide +kernel
theorem dX7_sortByKind_56 : decode cX7_sortByKind 56 = .ok (.lastore, 1) := by decide +kernel
theorem dX7_sortByKind_57 : decode cX7_sortByKind 57 = .ok (.iinc 3 1, 3) := by decide +kernel
theorem dX7_sortByKind_60 : decode cX7_sortByKind 60 = .ok (.goto (-58), 3) := by decide +kernel
theorem dX7_sortByKind_63 : decode cX7_sortByKind 63 = .ok (.getstatic 80, 3) := by decide +kernel
theorem dX7_sortByKind_66 : decode cX7_sortByKind 66 = .ok (.astore_n 3, 1) := by decide +kernel
theorem dX7_sortByKind_67 : decode cX7_sortByKind 67 = .ok (.aload_n 3, 1) := by decide +kernel
theorem dX7_sortByKind_68 : decode cX7_sortByKind 68 = .ok (.arraylength, 1) := by decide +kernel
theorem dX7_sortByKind_69 : decode cX7_sortByKind 69 = .ok (.istore 4, 2) := by decide +kernel
theorem dX7_sortByKind_71 : decode cX7_sortByKind 71 = .ok (.iconst 0, 1) := by decide +kernel
theorem dX7_sortByKind_72 : decode cX7_sortByKind 72 = .ok (.istore 5, 2) := by decide +kernel
theorem dX7_sortByKind_74 : decode cX7_sortByKind 74 = .ok (.iload 5, 2) := by decide +kernel
theorem dX7_sortByKind_76 : decode cX7_sortByKind 76 = .ok (.iload 4, 2) := by decide +kernel
theorem dX7_sortByKind_78 : decode cX7_sortByKind 78 = .ok (.if_icmp .ge 42, 3) := by decide +kernel
theorem dX7_sortByKind_81 : decode cX7_sortByKind 81 = .ok (.aload_n 3, 1) := by decide +kernel
theorem dX7_sortByKind_82 : decode cX7_sortByKind 82 = .ok (.iload 5, 2) := by decide +kernel
theorem dX7_sortByKind_84 : decode cX7_sortByKind 84 = .ok (.iaload, 1) := by decide +kernel
theorem dX7_sortByKind_85 : decode cX7_sortByKind 85 = .ok (.istore 6, 2) := by decide +kernel
theorem dX7_sortByKind_87 : decode cX7_sortByKind 87 = .ok (.iload 6, 2) := by decide +kernel
theorem dX7_sortByKind_89 : decode cX7_sortByKind 89 = .ok (.istore 7, 2) := by decide +kernel
theorem dX7_sortByKind_91 : decode cX7_sortByKind 91 = .ok (.iload 7, 2) := by decide +kernel
theorem dX7_sortByKind_93 : decode cX7_sortByKind 93 = .ok (.aload_n 1, 1) := by decide +kernel
theorem dX7_sortByKind_94 : decode cX7_sortByKind 94 = .ok (.getfield 64, 3) := by decide +kernel
theorem dX7_sortByKind_97 : decode cX7_sortByKind 97 = .ok (.if_icmp .ge 17, 3) := by decide +kernel
theorem dX7_sortByKind_100 : decode cX7_sortByKind 100 = .ok (.aload_n 0, 1) := by decide +kernel
theorem dX7_sortByKind_101 : decode cX7_sortByKind 101 = .ok (.iload 7, 2) := by decide +kernel
theorem dX7_sortByKind_103 : decode cX7_sortByKind 103 = .ok (.iload 6, 2) := by decide +kernel
theorem dX7_sortByKind_105 : decode cX7_sortByKind 105 = .ok (.invokevirtual 83, 3) := by decide +kernel
theorem dX7_sortByKind_108 : decode cX7_sortByKind 108 = .ok (.iinc 7 1, 3) := by decide +kernel
theorem dX7_sortByKind_111 : decode cX7_sortByKind 111 = .ok (.goto (-20), 3) := by decide +kernel
theorem dX7_sortByKind_114 : decode cX7_sortByKind 114 = .ok (.iinc 5 1, 3) := by decide +kernel
theorem dX7_sortByKind_117 : decode cX7_sortByKind 117 = .ok (.goto (-43), 3) := by decide +kernel
theorem dX7_sortByKind_120 : decode cX7_sortByKind 120 = .ok (.return_, 1) := by decide +kernel
theorem dX7_sink_0 : decode cX7_sink 0 = .ok (.iload_n 2, 1) := by decide +kernel
theorem dX7_sink_1 : decode cX7_sink 1 = .ok (.iconst 1, 1) := by decide +kernel
theorem dX7_sink_2 : decode cX7_sink 2 = .ok (.if_icmp .ge 4, 3) := by decide +kernel
theorem dX7_sink_5 : decode cX7_sink 5 = .ok (.return_, 1) := by decide +kernel
theorem dX7_sink_6 : decode cX7_sink 6 = .ok (.aload_n 0, 1) := by decide +kernel
theorem dX7_sink_7 : decode cX7_sink 7 = .ok (.getfield 9, 3) := by decide +kernel
theorem dX7_sink_10 : decode cX7_sink 10 = .ok (.iload_n 1, 1) := by decide +kernel
theorem dX7_sink_11 : decode cX7_sink 11 = .ok (.laload, 1) := by decide +kernel
theorem dX7_sink_12 : decode cX7_sink 12 = .ok (.lstore_n 3, 1) := by decide +kernel
theorem dX7_sink_13 : decode cX7_sink 13 = .ok (.iload_n 1, 1) := by decide +kernel
theorem dX7_sink_14 : decode cX7_sink 14 = .ok (.istore 5, 2) := by decide +kernel
theorem dX7_sink_16 : decode cX7_sink 16 = .ok (.iload 5, 2) := by decide +kernel
theorem dX7_sink_18 : decode cX7_sink 18 = .ok (.iload_n 2, 1) := by decide +kernel
theorem dX7_sink_19 : decode cX7_sink 19 = .ok (.if_icmp .lt 42, 3) := by decide +kernel
theorem dX7_sink_22 : decode cX7_sink 22 = .ok (.aload_n 0, 1) := by decide +kernel
theorem dX7_sink_23 : decode cX7_sink 23 = .ok (.getfield 9, 3) := by decide +kernel
theorem dX7_sink_26 : decode cX7_sink 26 = .ok (.iload 5, 2) := by decide +kernel
theorem dX7_sink_28 : decode cX7_sink 28 = .ok (.iload_n 2, 1) := by decide +kernel
theorem dX7_sink_29 : decode cX7_sink 29 = .ok (.isub, 1) := by decide +kernel
theorem dX7_sink_30 : decode cX7_sink 30 = .ok (.laload, 1) := by decide +kernel
theorem dX7_sink_31 : decode cX7_sink 31 = .ok (.lload_n 3, 1) := by decide +kernel
theorem dX7_sink_32 : decode cX7_sink 32 = .ok (.lcmp, 1) := by decide +kernel
theorem dX7_sink_33 : decode cX7_sink 33 = .ok (.ifCond .le 28, 3) := by decide +kernel
theorem dX7_sink_36 : decode cX7_sink 36 = .ok (.aload_n 0, 1) := by decide +kernel
theorem dX7_sink_37 : decode cX7_sink 37 = .ok (.getfield 9, 3) := by decide +kernel
theorem dX7_sink_40 : decode cX7_sink 40 = .ok (.iload 5, 2) := by decide +kernel
theorem dX7_sink_42 : decode cX7_sink 42 = .ok (.aload_n 0, 1) := by decide +kernel
theorem dX7_sink_43 : decode cX7_sink 43 = .ok (.getfield 9, 3) := by decide +kernel
theorem dX7_sink_46 : decode cX7_sink 46 = .ok (.iload 5, 2) := by decide +kernel
theorem dX7_sink_48 : decode cX7_sink 48 = .ok (.iload_n 2, 1) := by decide +kernel
theorem dX7_sink_49 : decode cX7_sink 49 = .ok (.isub, 1) := by decide +kernel
theorem dX7_sink_50 : decode cX7_sink 50 = .ok (.laload, 1) := by decide +kernel
theorem dX7_sink_51 : decode cX7_sink 51 = .ok (.lastore, 1) := by decide +kernel
theorem dX7_sink_52 : decode cX7_sink 52 = .ok (.iload 5, 2) := by decide +kernel
theorem dX7_sink_54 : decode cX7_sink 54 = .ok (.iload_n 2, 1) := by decide +kernel
theorem dX7_sink_55 : decode cX7_sink 55 = .ok (.isub, 1) := by decide +kernel
theorem dX7_sink_56 : decode cX7_sink 56 = .ok (.istore 5, 2) := by decide +kernel
theorem dX7_sink_58 : decode cX7_sink 58 = .ok (.goto (-42), 3) := by decide +kernel
theorem dX7_sink_61 : decode cX7_sink 61 = .ok (.aload_n 0, 1) := by decide +kernel
theorem dX7_sink_62 : decode cX7_sink 62 = .ok (.getfield 9, 3) := by decide +kernel
theorem dX7_sink_65 : decode cX7_sink 65 = .ok (.iload 5, 2) := by decide +kernel
theorem dX7_sink_67 : decode cX7_sink 67 = .ok (.lload_n 3, 1) := by decide +kernel
theorem dX7_sink_68 : decode cX7_sink 68 = .ok (.lastore, 1) := by decide +kernel
theorem dX7_sink_69 : decode cX7_sink 69 = .ok (.return_, 1) := by decide +kernel
theorem dX7_kindAt_0 : decode cX7_kindAt 0 = .ok (.aload_n 0, 1) := by decide +kernel
theorem dX7_kindAt_1 : decode cX7_kindAt 1 = .ok (.getfield 9, 3) := by decide +kernel
theorem dX7_kindAt_4 : decode cX7_kindAt 4 = .ok (.iload_n 1, 1) := by decide +kernel
theorem dX7_kindAt_5 : decode cX7_kindAt 5 = .ok (.laload, 1) := by decide +kernel
theorem dX7_kindAt_6 : decode cX7_kindAt 6 = .ok (.bipush 12, 2) := by decide +kernel
theorem dX7_kindAt_8 : decode cX7_kindAt 8 = .ok (.lshr, 1) := by decide +kernel
theorem dX7_kindAt_9 : decode cX7_kindAt 9 = .ok (.l2i, 1) := by decide +kernel
theorem dX7_kindAt_10 : decode cX7_kindAt 10 = .ok (.ireturn, 1) := by decide +kernel
theorem dX7_intensityAt_0 : decode cX7_intensityAt 0 = .ok (.aload_n 2, 1) := by decide +kernel
theorem dX7_intensityAt_1 : decode cX7_intensityAt 1 = .ok (.getfield 87, 3) := by decide +kernel
theorem dX7_intensityAt_4 : decode cX7_intensityAt 4 = .ok (.aload_n 0, 1) := by decide +kernel
theorem dX7_intensityAt_5 : decode cX7_intensityAt 5 = .ok (.getfield 9, 3) := by decide +kernel
theorem dX7_intensityAt_8 : decode cX7_intensityAt 8 = .ok (.iload_n 1, 1) := by decide +kernel
theorem dX7_intensityAt_9 : decode cX7_intensityAt 9 = .ok (.laload, 1) := by decide +kernel
theorem dX7_intensityAt_10 : decode cX7_intensityAt 10 = .ok (.ldc2_w 90, 3) := by decide +kernel
theorem dX7_intensityAt_13 : decode cX7_intensityAt 13 = .ok (.land, 1) := by decide +kernel
theorem dX7_intensityAt_14 : decode cX7_intensityAt 14 = .ok (.l2i, 1) := by decide +kernel
theorem dX7_intensityAt_15 : decode cX7_intensityAt 15 = .ok (.iaload, 1) := by decide +kernel
theorem dX7_intensityAt_16 : decode cX7_intensityAt 16 = .ok (.ireturn, 1) := by decide +kernel
theorem dX7_gather_0 : decode cX7_gather 0 = .ok (.iconst 0, 1) := by decide +kernel
theorem dX7_gather_1 : decode cX7_gather 1 = .ok (.istore_n 3, 1) := by decide +kernel
theorem dX7_gather_2 : decode cX7_gather 2 = .ok (.iload_n 3, 1) := by decide +kernel
theorem dX7_gather_3 : decode cX7_gather 3 = .ok (.aload_n 1, 1) := by decide +kernel
theorem dX7_gather_4 : decode cX7_gather 4 = .ok (.getfield 64, 3) := by decide +kernel
theorem dX7_gather_7 : decode cX7_gather 7 = .ok (.if_icmp .ge 74, 3) := by decide +kernel
theorem dX7_gather_10 : decode cX7_gather 10 = .ok (.iload_n 3, 1) := by decide +kernel
theorem dX7_gather_11 : decode cX7_gather 11 = .ok (.ifCond .eq 18, 3) := by decide +kernel
theorem dX7_gather_14 : decode cX7_gather 14 = .ok (.aload_n 0, 1) := by decide +kernel
theorem dX7_gather_15 : decode cX7_gather 15 = .ok (.iload_n 3, 1) := by decide +kernel
theorem dX7_gather_16 : decode cX7_gather 16 = .ok (.invokevirtual 92, 3) := by decide +kernel
theorem dX7_gather_19 : decode cX7_gather 19 = .ok (.aload_n 0, 1) := by decide +kernel
theorem dX7_gather_20 : decode cX7_gather 20 = .ok (.iload_n 3, 1) := by decide +kernel
theorem dX7_gather_21 : decode cX7_gather 21 = .ok (.iconst 1, 1) := by decide +kernel
theorem dX7_gather_22 : decode cX7_gather 22 = .ok (.isub, 1) := by decide +kernel
theorem dX7_gather_23 : decode cX7_gather 23 = .ok (.invokevirtual 92, 3) := by decide +kernel
theorem dX7_gather_26 : decode cX7_gather 26 = .ok (.if_icmp .eq 13, 3) := by decide +kernel
theorem dX7_gather_29 : decode cX7_gather 29 = .ok (.aload_n 0, 1) := by decide +kernel
theorem dX7_gather_30 : decode cX7_gather 30 = .ok (.aload_n 0, 1) := by decide +kernel
theorem dX7_gather_31 : decode cX7_gather 31 = .ok (.iload_n 3, 1) := by decide +kernel
theorem dX7_gather_32 : decode cX7_gather 32 = .ok (.invokevirtual 92, 3) := by decide +kernel
theorem dX7_gather_35 : decode cX7_gather 35 = .ok (.aload_n 2, 1) := by decide +kernel
theorem dX7_gather_36 : decode cX7_gather 36 = .ok (.invokevirtual 96, 3) := by decide +kernel
theorem dX7_gather_39 : decode cX7_gather 39 = .ok (.aload_n 0, 1) := by decide +kernel
theorem dX7_gather_40 : decode cX7_gather 40 = .ok (.getfield 19, 3) := by decide +kernel
theorem dX7_gather_43 : decode cX7_gather 43 = .ok (.aload_n 0, 1) := by decide +kernel
theorem dX7_gather_44 : decode cX7_gather 44 = .ok (.getfield 42, 3) := by decide +kernel
theorem dX7_gather_47 : decode cX7_gather 47 = .ok (.iconst 1, 1) := by decide +kernel
theorem dX7_gather_48 : decode cX7_gather 48 = .ok (.isub, 1) := by decide +kernel
theorem dX7_gather_49 : decode cX7_gather 49 = .ok (.dup2, 1) := by decide +kernel
theorem dX7_gather_50 : decode cX7_gather 50 = .ok (.iaload, 1) := by decide +kernel
theorem dX7_gather_51 : decode cX7_gather 51 = .ok (.iconst 1, 1) := by decide +kernel
theorem dX7_gather_52 : decode cX7_gather 52 = .ok (.iadd, 1) := by decide +kernel
theorem dX7_gather_53 : decode cX7_gather 53 = .ok (.iastore, 1) := by decide +kernel
theorem dX7_gather_54 : decode cX7_gather 54 = .ok (.aload_n 0, 1) := by decide +kernel
theorem dX7_gather_55 : decode cX7_gather 55 = .ok (.getfield 29, 3) := by decide +kernel
theorem dX7_gather_58 : decode cX7_gather 58 = .ok (.aload_n 0, 1) := by decide +kernel
theorem dX7_gather_59 : decode cX7_gather 59 = .ok (.getfield 42, 3) := by decide +kernel
theorem dX7_gather_62 : decode cX7_gather 62 = .ok (.iconst 1, 1) := by decide +kernel
theorem dX7_gather_63 : decode cX7_gather 63 = .ok (.isub, 1) := by decide +kernel
theorem dX7_gather_64 : decode cX7_gather 64 = .ok (.dup2, 1) := by decide +kernel
theorem dX7_gather_65 : decode cX7_gather 65 = .ok (.laload, 1) := by decide +kernel
theorem dX7_gather_66 : decode cX7_gather 66 = .ok (.aload_n 0, 1) := by decide +kernel
theorem dX7_gather_67 : decode cX7_gather 67 = .ok (.iload_n 3, 1) := by decide +kernel
theorem dX7_gather_68 : decode cX7_gather 68 = .ok (.aload_n 1, 1) := by decide +kernel
theorem dX7_gather_69 : decode cX7_gather 69 = .ok (.invokevirtual 100, 3) := by decide +kernel
theorem dX7_gather_72 : decode cX7_gather 72 = .ok (.i2l, 1) := by decide +kernel
theorem dX7_gather_73 : decode cX7_gather 73 = .ok (.ladd, 1) := by decide +kernel
theorem dX7_gather_74 : decode cX7_gather 74 = .ok (.lastore, 1) := by decide +kernel
theorem dX7_gather_75 : decode cX7_gather 75 = .ok (.iinc 3 1, 3) := by decide +kernel
theorem dX7_gather_78 : decode cX7_gather 78 = .ok (.goto (-76), 3) := by decide +kernel
theorem dX7_gather_81 : decode cX7_gather 81 = .ok (.return_, 1) := by decide +kernel
theorem dX7_begin_0 : decode cX7_begin 0 = .ok (.iload_n 1, 1) := by decide +kernel
theorem dX7_begin_1 : decode cX7_begin 1 = .ok (.iconst 0, 1) := by decide +kernel
theorem dX7_begin_2 : decode cX7_begin 2 = .ok (.invokestatic 68, 3) := by decide +kernel
theorem dX7_begin_5 : decode cX7_begin 5 = .ok (.istore_n 3, 1) := by decide +kernel
theorem dX7_begin_6 : decode cX7_begin 6 = .ok (.iload_n 1, 1) := by decide +kernel
theorem dX7_begin_7 : decode cX7_begin 7 = .ok (.iconst 1, 1) := by decide +kernel
theorem dX7_begin_8 : decode cX7_begin 8 = .ok (.invokestatic 68, 3) := by decide +kernel
theorem dX7_begin_11 : decode cX7_begin 11 = .ok (.istore 4, 2) := by decide +kernel
theorem dX7_begin_13 : decode cX7_begin 13 = .ok (.iload_n 1, 1) := by decide +kernel
theorem dX7_begin_14 : decode cX7_begin 14 = .ok (.iconst 2, 1) := by decide +kernel
theorem dX7_begin_15 : decode cX7_begin 15 = .ok (.invokestatic 68, 3) := by decide +kernel
theorem dX7_begin_18 : decode cX7_begin 18 = .ok (.istore 5, 2) := by decide +kernel
theorem dX7_begin_20 : decode cX7_begin 20 = .ok (.aload_n 0, 1) := by decide +kernel
theorem dX7_begin_21 : decode cX7_begin 21 = .ok (.getfield 15, 3) := by decide +kernel
theorem dX7_begin_24 : decode cX7_begin 24 = .ok (.aload_n 0, 1) := by decide +kernel
theorem dX7_begin_25 : decode cX7_begin 25 = .ok (.getfield 42, 3) := by decide +kernel
theorem dX7_begin_28 : decode cX7_begin 28 = .ok (.iload_n 1, 1) := by decide +kernel
theorem dX7_begin_29 : decode cX7_begin 29 = .ok (.iastore, 1) := by decide +kernel
theorem dX7_begin_30 : decode cX7_begin 30 = .ok (.aload_n 0, 1) := by decide +kernel
theorem dX7_begin_31 : decode cX7_begin 31 = .ok (.getfield 19, 3) := by decide +kernel
theorem dX7_begin_34 : decode cX7_begin 34 = .ok (.aload_n 0, 1) := by decide +kernel
theorem dX7_begin_35 : decode cX7_begin 35 = .ok (.getfield 42, 3) := by decide +kernel
theorem dX7_begin_38 : decode cX7_begin 38 = .ok (.iconst 0, 1) := by decide +kernel
theorem dX7_begin_39 : decode cX7_begin 39 = .ok (.iastore, 1) := by decide +kernel
theorem dX7_begin_40 : decode cX7_begin 40 = .ok (.aload_n 0, 1) := by decide +kernel
theorem dX7_begin_41 : decode cX7_begin 41 = .ok (.getfield 22, 3) := by decide +kernel
theorem dX7_begin_44 : decode cX7_begin 44 = .ok (.aload_n 0, 1) := by decide +kernel
theorem dX7_begin_45 : decode cX7_begin 45 = .ok (.getfield 42, 3) := by decide +kernel
theorem dX7_begin_48 : decode cX7_begin 48 = .ok (.aload_n 2, 1) := by decide +kernel
theorem dX7_begin_49 : decode cX7_begin 49 = .ok (.iload_n 3, 1) := by decide +kernel
theorem dX7_begin_50 : decode cX7_begin 50 = .ok (.iload 4, 2) := by decide +kernel
theorem dX7_begin_52 : decode cX7_begin 52 = .ok (.iload 5, 2) := by decide +kernel
theorem dX7_begin_54 : decode cX7_begin 54 = .ok (.invokevirtual 104, 3) := by decide +kernel
theorem dX7_begin_57 : decode cX7_begin 57 = .ok (.iastore, 1) := by decide +kernel
theorem dX7_begin_58 : decode cX7_begin 58 = .ok (.aload_n 0, 1) := by decide +kernel
theorem dX7_begin_59 : decode cX7_begin 59 = .ok (.getfield 25, 3) := by decide +kernel
theorem dX7_begin_62 : decode cX7_begin 62 = .ok (.aload_n 0, 1) := by decide +kernel
theorem dX7_begin_63 : decode cX7_begin 63 = .ok (.getfield 42, 3) := by decide +kernel
theorem dX7_begin_66 : decode cX7_begin 66 = .ok (.aload_n 2, 1) := by decide +kernel
theorem dX7_begin_67 : decode cX7_begin 67 = .ok (.iload_n 3, 1) := by decide +kernel
theorem dX7_begin_68 : decode cX7_begin 68 = .ok (.iload 4, 2) := by decide +kernel
theorem dX7_begin_70 : decode cX7_begin 70 = .ok (.iload 5, 2) := by decide +kernel
theorem dX7_begin_72 : decode cX7_begin 72 = .ok (.invokevirtual 107, 3) := by decide +kernel
theorem dX7_begin_75 : decode cX7_begin 75 = .ok (.bastore, 1) := by decide +kernel
theorem dX7_begin_76 : decode cX7_begin 76 = .ok (.aload_n 0, 1) := by decide +kernel
theorem dX7_begin_77 : decode cX7_begin 77 = .ok (.getfield 29, 3) := by decide +kernel
theorem dX7_begin_80 : decode cX7_begin 80 = .ok (.aload_n 0, 1) := by decide +kernel
theorem dX7_begin_81 : decode cX7_begin 81 = .ok (.getfield 42, 3) := by decide +kernel
theorem dX7_begin_84 : decode cX7_begin 84 = .ok (.lconst 0, 1) := by decide +kernel
theorem dX7_begin_85 : decode cX7_begin 85 = .ok (.lastore, 1) := by decide +kernel
theorem dX7_begin_86 : decode cX7_begin 86 = .ok (.aload_n 0, 1) := by decide +kernel
theorem dX7_begin_87 : decode cX7_begin 87 = .ok (.getfield 32, 3) := by decide +kernel
theorem dX7_begin_90 : decode cX7_begin 90 = .ok (.aload_n 0, 1) := by decide +kernel
theorem dX7_begin_91 : decode cX7_begin 91 = .ok (.getfield 42, 3) := by decide +kernel
theorem dX7_begin_94 : decode cX7_begin 94 = .ok (.lconst 0, 1) := by decide +kernel
theorem dX7_begin_95 : decode cX7_begin 95 = .ok (.lastore, 1) := by decide +kernel
theorem dX7_begin_96 : decode cX7_begin 96 = .ok (.aload_n 0, 1) := by decide +kernel
theorem dX7_begin_97 : decode cX7_begin 97 = .ok (.dup, 1) := by decide +kernel
theorem dX7_begin_98 : decode cX7_begin 98 = .ok (.getfield 42, 3) := by decide +kernel
theorem dX7_begin_101 : decode cX7_begin 101 = .ok (.iconst 1, 1) := by decide +kernel
theorem dX7_begin_102 : decode cX7_begin 102 = .ok (.iadd, 1) := by decide +kernel
theorem dX7_begin_103 : decode cX7_begin 103 = .ok (.putfield 42, 3) := by decide +kernel
theorem dX7_begin_106 : decode cX7_begin 106 = .ok (.return_, 1) := by decide +kernel
theorem dX7_addSpreads_0 : decode cX7_addSpreads 0 = .ok (.iconst (-1), 1) := by decide +kernel
theorem dX7_addSpreads_1 : decode cX7_addSpreads 1 = .ok (.istore_n 2, 1) := by decide +kernel
theorem dX7_addSpreads_2 : decode cX7_addSpreads 2 = .ok (.iconst 0, 1) := by decide +kernel
theorem dX7_addSpreads_3 : decode cX7_addSpreads 3 = .ok (.istore_n 3, 1) := by decide +kernel
theorem dX7_addSpreads_4 : decode cX7_addSpreads 4 = .ok (.iload_n 3, 1) := by decide +kernel
theorem dX7_addSpreads_5 : decode cX7_addSpreads 5 = .ok (.aload_n 1, 1) := by decide +kernel
theorem dX7_addSpreads_6 : decode cX7_addSpreads 6 = .ok (.getfield 64, 3) := by decide +kernel
theorem dX7_addSpreads_9 : decode cX7_addSpreads 9 = .ok (.if_icmp .ge 65, 3) := by decide +kernel
theorem dX7_addSpreads_12 : decode cX7_addSpreads 12 = .ok (.iload_n 3, 1) := by decide +kernel
theorem dX7_addSpreads_13 : decode cX7_addSpreads 13 = .ok (.ifCond .eq 18, 3) := by decide +kernel
theorem dX7_addSpreads_16 : decode cX7_addSpreads 16 = .ok (.aload_n 0, 1) := by decide +kernel
theorem dX7_addSpreads_17 : decode cX7_addSpreads 17 = .ok (.iload_n 3, 1) := by decide +kernel
theorem dX7_addSpreads_18 : decode cX7_addSpreads 18 = .ok (.invokevirtual 92, 3) := by decide +kernel
theorem dX7_addSpreads_21 : decode cX7_addSpreads 21 = .ok (.aload_n 0, 1) := by decide +kernel
theorem dX7_addSpreads_22 : decode cX7_addSpreads 22 = .ok (.iload_n 3, 1) := by decide +kernel
theorem dX7_addSpreads_23 : decode cX7_addSpreads 23 = .ok (.iconst 1, 1) := by decide +kernel
theorem dX7_addSpreads_24 : decode cX7_addSpreads 24 = .ok (.isub, 1) := by decide +kernel
theorem dX7_addSpreads_25 : decode cX7_addSpreads 25 = .ok (.invokevirtual 92, 3) := by decide +kernel
theorem dX7_addSpreads_28 : decode cX7_addSpreads 28 = .ok (.if_icmp .eq 6, 3) := by decide +kernel
theorem dX7_addSpreads_31 : decode cX7_addSpreads 31 = .ok (.iinc 2 1, 3) := by decide +kernel
theorem dX7_addSpreads_34 : decode cX7_addSpreads 34 = .ok (.aload_n 0, 1) := by decide +kernel
theorem dX7_addSpreads_35 : decode cX7_addSpreads 35 = .ok (.getfield 32, 3) := by decide +kernel
theorem dX7_addSpreads_38 : decode cX7_addSpreads 38 = .ok (.iload_n 2, 1) := by decide +kernel
theorem dX7_addSpreads_39 : decode cX7_addSpreads 39 = .ok (.dup2, 1) := by decide +kernel
theorem dX7_addSpreads_40 : decode cX7_addSpreads 40 = .ok (.laload, 1) := by decide +kernel
theorem dX7_addSpreads_41 : decode cX7_addSpreads 41 = .ok (.aload_n 0, 1) := by decide +kernel
theorem dX7_addSpreads_42 : decode cX7_addSpreads 42 = .ok (.getfield 19, 3) := by decide +kernel
theorem dX7_addSpreads_45 : decode cX7_addSpreads 45 = .ok (.iload_n 2, 1) := by decide +kernel
theorem dX7_addSpreads_46 : decode cX7_addSpreads 46 = .ok (.iaload, 1) := by decide +kernel
theorem dX7_addSpreads_47 : decode cX7_addSpreads 47 = .ok (.i2l, 1) := by decide +kernel
theorem dX7_addSpreads_48 : decode cX7_addSpreads 48 = .ok (.aload_n 0, 1) := by decide +kernel
theorem dX7_addSpreads_49 : decode cX7_addSpreads 49 = .ok (.iload_n 3, 1) := by decide +kernel
theorem dX7_addSpreads_50 : decode cX7_addSpreads 50 = .ok (.aload_n 1, 1) := by decide +kernel
theorem dX7_addSpreads_51 : decode cX7_addSpreads 51 = .ok (.invokevirtual 100, 3) := by decide +kernel
theorem dX7_addSpreads_54 : decode cX7_addSpreads 54 = .ok (.i2l, 1) := by decide +kernel
theorem dX7_addSpreads_55 : decode cX7_addSpreads 55 = .ok (.lmul, 1) := by decide +kernel
theorem dX7_addSpreads_56 : decode cX7_addSpreads 56 = .ok (.aload_n 0, 1) := by decide +kernel
theorem dX7_addSpreads_57 : decode cX7_addSpreads 57 = .ok (.getfield 29, 3) := by decide +kernel
theorem dX7_addSpreads_60 : decode cX7_addSpreads 60 = .ok (.iload_n 2, 1) := by decide +kernel
theorem dX7_addSpreads_61 : decode cX7_addSpreads 61 = .ok (.laload, 1) := by decide +kernel
theorem dX7_addSpreads_62 : decode cX7_addSpreads 62 = .ok (.lsub, 1) := by decide +kernel
theorem dX7_addSpreads_63 : decode cX7_addSpreads 63 = .ok (.invokestatic 111, 3) := by decide +kernel
theorem dX7_addSpreads_66 : decode cX7_addSpreads 66 = .ok (.ladd, 1) := by decide +kernel
theorem dX7_addSpreads_67 : decode cX7_addSpreads 67 = .ok (.lastore, 1) := by decide +kernel
theorem dX7_addSpreads_68 : decode cX7_addSpreads 68 = .ok (.iinc 3 1, 3) := by decide +kernel
theorem dX7_addSpreads_71 : decode cX7_addSpreads 71 = .ok (.goto (-67), 3) := by decide +kernel
theorem dX7_addSpreads_74 : decode cX7_addSpreads 74 = .ok (.return_, 1) := by decide +kernel
theorem dX7_makeQuotient_0 : decode cX7_makeQuotient 0 = .ok (.lconst 0, 1) := by decide +kernel
theorem dX7_makeQuotient_1 : decode cX7_makeQuotient 1 = .ok (.lstore_n 1, 1) := by decide +kernel
theorem dX7_makeQuotient_2 : decode cX7_makeQuotient 2 = .ok (.iconst 0, 1) := by decide +kernel
theorem dX7_makeQuotient_3 : decode cX7_makeQuotient 3 = .ok (.istore_n 3, 1) := by decide +kernel
theorem dX7_makeQuotient_4 : decode cX7_makeQuotient 4 = .ok (.iload_n 3, 1) := by decide +kernel
theorem dX7_makeQuotient_5 : decode cX7_makeQuotient 5 = .ok (.aload_n 0, 1) := by decide +kernel
theorem dX7_makeQuotient_6 : decode cX7_makeQuotient 6 = .ok (.getfield 42, 3) := by decide +kernel
theorem dX7_makeQuotient_9 : decode cX7_makeQuotient 9 = .ok (.if_icmp .ge 56, 3) := by decide +kernel
theorem dX7_makeQuotient_12 : decode cX7_makeQuotient 12 = .ok (.aload_n 0, 1) := by decide +kernel
theorem dX7_makeQuotient_13 : decode cX7_makeQuotient 13 = .ok (.getfield 25, 3) := by decide +kernel
theorem dX7_makeQuotient_16 : decode cX7_makeQuotient 16 = .ok (.iload_n 3, 1) := by decide +kernel
theorem dX7_makeQuotient_17 : decode cX7_makeQuotient 17 = .ok (.baload, 1) := by decide +kernel
theorem dX7_makeQuotient_18 : decode cX7_makeQuotient 18 = .ok (.ifCond .ne 41, 3) := by decide +kernel
theorem dX7_makeQuotient_21 : decode cX7_makeQuotient 21 = .ok (.aload_n 0, 1) := by decide +kernel
theorem dX7_makeQuotient_22 : decode cX7_makeQuotient 22 = .ok (.getfield 19, 3) := by decide +kernel
theorem dX7_makeQuotient_25 : decode cX7_makeQuotient 25 = .ok (.iload_n 3, 1) := by decide +kernel
theorem dX7_makeQuotient_26 : decode cX7_makeQuotient 26 = .ok (.iaload, 1) := by decide +kernel
theorem dX7_makeQuotient_27 : decode cX7_makeQuotient 27 = .ok (.iconst 2, 1) := by decide +kernel
theorem dX7_makeQuotient_28 : decode cX7_makeQuotient 28 = .ok (.if_icmp .lt 31, 3) := by decide +kernel
theorem dX7_makeQuotient_31 : decode cX7_makeQuotient 31 = .ok (.aload_n 0, 1) := by decide +kernel
theorem dX7_makeQuotient_32 : decode cX7_makeQuotient 32 = .ok (.getfield 38, 3) := by decide +kernel
theorem dX7_makeQuotient_35 : decode cX7_makeQuotient 35 = .ok (.aload_n 0, 1) := by decide +kernel
theorem dX7_makeQuotient_36 : decode cX7_makeQuotient 36 = .ok (.getfield 32, 3) := by decide +kernel
theorem dX7_makeQuotient_39 : decode cX7_makeQuotient 39 = .ok (.iload_n 3, 1) := by decide +kernel
theorem dX7_makeQuotient_40 : decode cX7_makeQuotient 40 = .ok (.laload, 1) := by decide +kernel
theorem dX7_makeQuotient_41 : decode cX7_makeQuotient 41 = .ok (.aload_n 0, 1) := by decide +kernel
theorem dX7_makeQuotient_42 : decode cX7_makeQuotient 42 = .ok (.getfield 19, 3) := by decide +kernel
theorem dX7_makeQuotient_45 : decode cX7_makeQuotient 45 = .ok (.iload_n 3, 1) := by decide +kernel
theorem dX7_makeQuotient_46 : decode cX7_makeQuotient 46 = .ok (.iaload, 1) := by decide +kernel
theorem dX7_makeQuotient_47 : decode cX7_makeQuotient 47 = .ok (.invokevirtual 117, 3) := by decide +kernel
theorem dX7_makeQuotient_50 : decode cX7_makeQuotient 50 = .ok (.lload_n 1, 1) := by decide +kernel
theorem dX7_makeQuotient_51 : decode cX7_makeQuotient 51 = .ok (.aload_n 0, 1) := by decide +kernel
theorem dX7_makeQuotient_52 : decode cX7_makeQuotient 52 = .ok (.getfield 29, 3) := by decide +kernel
theorem dX7_makeQuotient_55 : decode cX7_makeQuotient 55 = .ok (.iload_n 3, 1) := by decide +kernel
theorem dX7_makeQuotient_56 : decode cX7_makeQuotient 56 = .ok (.laload, 1) := by decide +kernel
theorem dX7_makeQuotient_57 : decode cX7_makeQuotient 57 = .ok (.ladd, 1) := by decide +kernel
theorem dX7_makeQuotient_58 : decode cX7_makeQuotient 58 = .ok (.lstore_n 1, 1) := by decide +kernel
theorem dX7_makeQuotient_59 : decode cX7_makeQuotient 59 = .ok (.iinc 3 1, 3) := by decide +kernel
theorem dX7_makeQuotient_62 : decode cX7_makeQuotient 62 = .ok (.goto (-58), 3) := by decide +kernel
theorem dX7_makeQuotient_65 : decode cX7_makeQuotient 65 = .ok (.aload_n 0, 1) := by decide +kernel
theorem dX7_makeQuotient_66 : decode cX7_makeQuotient 66 = .ok (.getfield 38, 3) := by decide +kernel
theorem dX7_makeQuotient_69 : decode cX7_makeQuotient 69 = .ok (.lload_n 1, 1) := by decide +kernel
theorem dX7_makeQuotient_70 : decode cX7_makeQuotient 70 = .ok (.invokevirtual 121, 3) := by decide +kernel
theorem dX7_makeQuotient_73 : decode cX7_makeQuotient 73 = .ok (.return_, 1) := by decide +kernel
theorem dX7_number_0 : decode cX7_number 0 = .ok (.iload_n 2, 1) := by decide +kernel
theorem dX7_number_1 : decode cX7_number 1 = .ok (.tableswitch 143 3 9 #[43, 51, 59, 74, 81, 108, 136], 43) := by decide +kernel
theorem dX7_number_44 : decode cX7_number 44 = .ok (.aload_n 0, 1) := by decide +kernel
theorem dX7_number_45 : decode cX7_number 45 = .ok (.getfield 19, 3) := by decide +kernel
theorem dX7_number_48 : decode cX7_number 48 = .ok (.iload_n 1, 1) := by decide +kernel
theorem dX7_number_49 : decode cX7_number 49 = .ok (.iaload, 1) := by decide +kernel
theorem dX7_number_50 : decode cX7_number 50 = .ok (.i2l, 1) := by decide +kernel
theorem dX7_number_51 : decode cX7_number 51 = .ok (.lreturn, 1) := by decide +kernel
theorem dX7_number_52 : decode cX7_number 52 = .ok (.aload_n 0, 1) := by decide +kernel
theorem dX7_number_53 : decode cX7_number 53 = .ok (.getfield 22, 3) := by decide +kernel
theorem dX7_number_56 : decode cX7_number 56 = .ok (.iload_n 1, 1) := by decide +kernel
theorem dX7_number_57 : decode cX7_number 57 = .ok (.iaload, 1) := by decide +kernel
theorem dX7_number_58 : decode cX7_number 58 = .ok (.i2l, 1) := by decide +kernel
theorem dX7_number_59 : decode cX7_number 59 = .ok (.lreturn, 1) := by decide +kernel
theorem dX7_number_60 : decode cX7_number 60 = .ok (.aload_n 0, 1) := by decide +kernel
theorem dX7_number_61 : decode cX7_number 61 = .ok (.getfield 25, 3) := by decide +kernel
theorem dX7_number_64 : decode cX7_number 64 = .ok (.iload_n 1, 1) := by decide +kernel
theorem dX7_number_65 : decode cX7_number 65 = .ok (.baload, 1) := by decide +kernel
theorem dX7_number_66 : decode cX7_number 66 = .ok (.ifCond .eq 7, 3) := by decide +kernel
theorem dX7_number_69 : decode cX7_number 69 = .ok (.lconst 1, 1) := by decide +kernel
theorem dX7_number_70 : decode cX7_number 70 = .ok (.goto 4, 3) := by decide +kernel
theorem dX7_number_73 : decode cX7_number 73 = .ok (.lconst 0, 1) := by decide +kernel
theorem dX7_number_74 : decode cX7_number 74 = .ok (.lreturn, 1) := by decide +kernel
theorem dX7_number_75 : decode cX7_number 75 = .ok (.aload_n 0, 1) := by decide +kernel
theorem dX7_number_76 : decode cX7_number 76 = .ok (.getfield 29, 3) := by decide +kernel
theorem dX7_number_79 : decode cX7_number 79 = .ok (.iload_n 1, 1) := by decide +kernel
theorem dX7_number_80 : decode cX7_number 80 = .ok (.laload, 1) := by decide +kernel
theorem dX7_number_81 : decode cX7_number 81 = .ok (.lreturn, 1) := by decide +kernel
theorem dX7_number_82 : decode cX7_number 82 = .ok (.aload_n 0, 1) := by decide +kernel
theorem dX7_number_83 : decode cX7_number 83 = .ok (.getfield 29, 3) := by decide +kernel
theorem dX7_number_86 : decode cX7_number 86 = .ok (.iload_n 1, 1) := by decide +kernel
theorem dX7_number_87 : decode cX7_number 87 = .ok (.laload, 1) := by decide +kernel
theorem dX7_number_88 : decode cX7_number 88 = .ok (.aload_n 0, 1) := by decide +kernel
theorem dX7_number_89 : decode cX7_number 89 = .ok (.getfield 29, 3) := by decide +kernel
theorem dX7_number_92 : decode cX7_number 92 = .ok (.iload_n 1, 1) := by decide +kernel
theorem dX7_number_93 : decode cX7_number 93 = .ok (.laload, 1) := by decide +kernel
theorem dX7_number_94 : decode cX7_number 94 = .ok (.invokestatic 111, 3) := by decide +kernel
theorem dX7_number_97 : decode cX7_number 97 = .ok (.aload_n 0, 1) := by decide +kernel
theorem dX7_number_98 : decode cX7_number 98 = .ok (.getfield 19, 3) := by decide +kernel
theorem dX7_number_101 : decode cX7_number 101 = .ok (.iload_n 1, 1) := by decide +kernel
theorem dX7_number_102 : decode cX7_number 102 = .ok (.iaload, 1) := by decide +kernel
theorem dX7_number_103 : decode cX7_number 103 = .ok (.i2l, 1) := by decide +kernel
theorem dX7_number_104 : decode cX7_number 104 = .ok (.invokestatic 125, 3) := by decide +kernel
theorem dX7_number_107 : decode cX7_number 107 = .ok (.ldiv, 1) := by decide +kernel
theorem dX7_number_108 : decode cX7_number 108 = .ok (.lreturn, 1) := by decide +kernel
theorem dX7_number_109 : decode cX7_number 109 = .ok (.aload_n 0, 1) := by decide +kernel
theorem dX7_number_110 : decode cX7_number 110 = .ok (.getfield 19, 3) := by decide +kernel
theorem dX7_number_113 : decode cX7_number 113 = .ok (.iload_n 1, 1) := by decide +kernel
theorem dX7_number_114 : decode cX7_number 114 = .ok (.iaload, 1) := by decide +kernel
theorem dX7_number_115 : decode cX7_number 115 = .ok (.i2l, 1) := by decide +kernel
theorem dX7_number_116 : decode cX7_number 116 = .ok (.aload_n 0, 1) := by decide +kernel
theorem dX7_number_117 : decode cX7_number 117 = .ok (.getfield 29, 3) := by decide +kernel
theorem dX7_number_120 : decode cX7_number 120 = .ok (.iload_n 1, 1) := by decide +kernel
theorem dX7_number_121 : decode cX7_number 121 = .ok (.laload, 1) := by decide +kernel
theorem dX7_number_122 : decode cX7_number 122 = .ok (.invokestatic 111, 3) := by decide +kernel
theorem dX7_number_125 : decode cX7_number 125 = .ok (.aload_n 0, 1) := by decide +kernel
theorem dX7_number_126 : decode cX7_number 126 = .ok (.getfield 19, 3) := by decide +kernel
theorem dX7_number_129 : decode cX7_number 129 = .ok (.iload_n 1, 1) := by decide +kernel
theorem dX7_number_130 : decode cX7_number 130 = .ok (.iaload, 1) := by decide +kernel
theorem dX7_number_131 : decode cX7_number 131 = .ok (.i2l, 1) := by decide +kernel
theorem dX7_number_132 : decode cX7_number 132 = .ok (.invokestatic 125, 3) := by decide +kernel
theorem dX7_number_135 : decode cX7_number 135 = .ok (.ldiv, 1) := by decide +kernel
theorem dX7_number_136 : decode cX7_number 136 = .ok (.lreturn, 1) := by decide +kernel
theorem dX7_number_137 : decode cX7_number 137 = .ok (.aload_n 0, 1) := by decide +kernel
theorem dX7_number_138 : decode cX7_number 138 = .ok (.getfield 32, 3) := by decide +kernel
theorem dX7_number_141 : decode cX7_number 141 = .ok (.iload_n 1, 1) := by decide +kernel
theorem dX7_number_142 : decode cX7_number 142 = .ok (.laload, 1) := by decide +kernel
theorem dX7_number_143 : decode cX7_number 143 = .ok (.lreturn, 1) := by decide +kernel
theorem dX7_number_144 : decode cX7_number 144 = .ok (.aload_n 0, 1) := by decide +kernel
theorem dX7_number_145 : decode cX7_number 145 = .ok (.getfield 15, 3) := by decide +kernel
theorem dX7_number_148 : decode cX7_number 148 = .ok (.iload_n 1, 1) := by decide +kernel
theorem dX7_number_149 : decode cX7_number 149 = .ok (.iaload, 1) := by decide +kernel
theorem dX7_number_150 : decode cX7_number 150 = .ok (.iload_n 2, 1) := by decide +kernel
theorem dX7_number_151 : decode cX7_number 151 = .ok (.invokestatic 68, 3) := by decide +kernel
theorem dX7_number_154 : decode cX7_number 154 = .ok (.i2l, 1) := by decide +kernel
theorem dX7_number_155 : decode cX7_number 155 = .ok (.lreturn, 1) := by decide +kernel
theorem dX7_countPresentWithin_0 : decode cX7_countPresentWithin 0 = .ok (.iconst 0, 1) := by decide +kernel
theorem dX7_countPresentWithin_1 : decode cX7_countPresentWithin 1 = .ok (.istore_n 2, 1) := by decide +kernel
theorem dX7_countPresentWithin_2 : decode cX7_countPresentWithin 2 = .ok (.iconst 0, 1) := by decide +kernel
theorem dX7_countPresentWithin_3 : decode cX7_countPresentWithin 3 = .ok (.istore_n 3, 1) := by decide +kernel
theorem dX7_countPresentWithin_4 : decode cX7_countPresentWithin 4 = .ok (.iload_n 3, 1) := by decide +kernel
theorem dX7_countPresentWithin_5 : decode cX7_countPresentWithin 5 = .ok (.aload_n 0, 1) := by decide +kernel
theorem dX7_countPresentWithin_6 : decode cX7_countPresentWithin 6 = .ok (.getfield 42, 3) := by decide +kernel
theorem dX7_countPresentWithin_9 : decode cX7_countPresentWithin 9 = .ok (.if_icmp .ge 70, 3) := by decide +kernel
theorem dX7_countPresentWithin_12 : decode cX7_countPresentWithin 12 = .ok (.aload_n 0, 1) := by decide +kernel
theorem dX7_countPresentWithin_13 : decode cX7_countPresentWithin 13 = .ok (.getfield 15, 3) := by decide +kernel
theorem dX7_countPresentWithin_16 : decode cX7_countPresentWithin 16 = .ok (.iload_n 3, 1) := by decide +kernel
theorem dX7_countPresentWithin_17 : decode cX7_countPresentWithin 17 = .ok (.iaload, 1) := by decide +kernel
theorem dX7_countPresentWithin_18 : decode cX7_countPresentWithin 18 = .ok (.iconst 0, 1) := by decide +kernel
theorem dX7_countPresentWithin_19 : decode cX7_countPresentWithin 19 = .ok (.invokestatic 68, 3) := by decide +kernel
theorem dX7_countPresentWithin_22 : decode cX7_countPresentWithin 22 = .ok (.istore 4, 2) := by decide +kernel
theorem dX7_countPresentWithin_24 : decode cX7_countPresentWithin 24 = .ok (.aload_n 0, 1) := by decide +kernel
theorem dX7_countPresentWithin_25 : decode cX7_countPresentWithin 25 = .ok (.getfield 15, 3) := by decide +kernel
theorem dX7_countPresentWithin_28 : decode cX7_countPresentWithin 28 = .ok (.iload_n 3, 1) := by decide +kernel
theorem dX7_countPresentWithin_29 : decode cX7_countPresentWithin 29 = .ok (.iaload, 1) := by decide +kernel
theorem dX7_countPresentWithin_30 : decode cX7_countPresentWithin 30 = .ok (.iconst 1, 1) := by decide +kernel
theorem dX7_countPresentWithin_31 : decode cX7_countPresentWithin 31 = .ok (.invokestatic 68, 3) := by decide +kernel
theorem dX7_countPresentWithin_34 : decode cX7_countPresentWithin 34 = .ok (.istore 5, 2) := by decide +kernel
theorem dX7_countPresentWithin_36 : decode cX7_countPresentWithin 36 = .ok (.aload_n 0, 1) := by decide +kernel
theorem dX7_countPresentWithin_37 : decode cX7_countPresentWithin 37 = .ok (.getfield 15, 3) := by decide +kernel
theorem dX7_countPresentWithin_40 : decode cX7_countPresentWithin 40 = .ok (.iload_n 3, 1) := by decide +kernel
theorem dX7_countPresentWithin_41 : decode cX7_countPresentWithin 41 = .ok (.iaload, 1) := by decide +kernel
theorem dX7_countPresentWithin_42 : decode cX7_countPresentWithin 42 = .ok (.iconst 2, 1) := by decide +kernel
theorem dX7_countPresentWithin_43 : decode cX7_countPresentWithin 43 = .ok (.invokestatic 68, 3) := by decide +kernel
theorem dX7_countPresentWithin_46 : decode cX7_countPresentWithin 46 = .ok (.istore 6, 2) := by decide +kernel
theorem dX7_countPresentWithin_48 : decode cX7_countPresentWithin 48 = .ok (.aload_n 0, 1) := by decide +kernel
theorem dX7_countPresentWithin_49 : decode cX7_countPresentWithin 49 = .ok (.getfield 25, 3) := by decide +kernel
theorem dX7_countPresentWithin_52 : decode cX7_countPresentWithin 52 = .ok (.iload_n 3, 1) := by decide +kernel
theorem dX7_countPresentWithin_53 : decode cX7_countPresentWithin 53 = .ok (.baload, 1) := by decide +kernel
theorem dX7_countPresentWithin_54 : decode cX7_countPresentWithin 54 = .ok (.ifCond .ne 19, 3) := by decide +kernel
theorem dX7_countPresentWithin_57 : decode cX7_countPresentWithin 57 = .ok (.iload 4, 2) := by decide +kernel
theorem dX7_countPresentWithin_59 : decode cX7_countPresentWithin 59 = .ok (.iload 5, 2) := by decide +kernel
theorem dX7_countPresentWithin_61 : decode cX7_countPresentWithin 61 = .ok (.iload 6, 2) := by decide +kernel
theorem dX7_countPresentWithin_63 : decode cX7_countPresentWithin 63 = .ok (.iload_n 1, 1) := by decide +kernel
theorem dX7_countPresentWithin_64 : decode cX7_countPresentWithin 64 = .ok (.invokestatic 129, 3) := by decide +kernel
theorem dX7_countPresentWithin_67 : decode cX7_countPresentWithin 67 = .ok (.ifCond .eq 6, 3) := by decide +kernel
theorem dX7_countPresentWithin_70 : decode cX7_countPresentWithin 70 = .ok (.iinc 2 1, 3) := by decide +kernel
theorem dX7_countPresentWithin_73 : decode cX7_countPresentWithin 73 = .ok (.iinc 3 1, 3) := by decide +kernel
theorem dX7_countPresentWithin_76 : decode cX7_countPresentWithin 76 = .ok (.goto (-72), 3) := by decide +kernel
theorem dX7_countPresentWithin_79 : decode cX7_countPresentWithin 79 = .ok (.iload_n 2, 1) := by decide +kernel
theorem dX7_countPresentWithin_80 : decode cX7_countPresentWithin 80 = .ok (.ireturn, 1) := by decide +kernel
