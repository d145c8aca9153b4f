theorem dX8_init_0 : decode cX8_init 0 = .ok (.aload_n 0, 1) := by decide +kernel
theorem dX8_init_1 : decode cX8_init 1 = .ok (.invokespecial 3, 3) := by decide +kernel
theorem dX8_init_4 : decode cX8_init 4 = .ok (.aload_n 0, 1) := by decide +kernel
theorem dX8_init_5 : decode cX8_init 5 = .ok (.bipush 12, 2) := by decide +kernel
theorem dX8_init_7 : decode cX8_init 7 = .ok (.newarray .int, 2) := by decide +kernel
theorem dX8_init_9 : decode cX8_init 9 = .ok (.putfield 11, 3) := by decide +kernel
theorem dX8_init_12 : decode cX8_init 12 = .ok (.aload_n 0, 1) := by decide +kernel
theorem dX8_init_13 : decode cX8_init 13 = .ok (.aload_n 1, 1) := by decide +kernel
theorem dX8_init_14 : decode cX8_init 14 = .ok (.putfield 17, 3) := by decide +kernel
theorem dX8_init_17 : decode cX8_init 17 = .ok (.aload_n 0, 1) := by decide +kernel
theorem dX8_init_18 : decode cX8_init 18 = .ok (.aload_n 2, 1) := by decide +kernel
theorem dX8_init_19 : decode cX8_init 19 = .ok (.putfield 21, 3) := by decide +kernel
theorem dX8_init_22 : decode cX8_init 22 = .ok (.return_, 1) := by decide +kernel
theorem dX8_readTape_0 : decode cX8_readTape 0 = .ok (.aload_n 0, 1) := by decide +kernel
theorem dX8_readTape_1 : decode cX8_readTape 1 = .ok (.iconst 0, 1) := by decide +kernel
theorem dX8_readTape_2 : decode cX8_readTape 2 = .ok (.putfield 25, 3) := by decide +kernel
theorem dX8_readTape_5 : decode cX8_readTape 5 = .ok (.aload_n 0, 1) := by decide +kernel
theorem dX8_readTape_6 : decode cX8_readTape 6 = .ok (.iconst 0, 1) := by decide +kernel
theorem dX8_readTape_7 : decode cX8_readTape 7 = .ok (.putfield 29, 3) := by decide +kernel
theorem dX8_readTape_10 : decode cX8_readTape 10 = .ok (.aload_n 0, 1) := by decide +kernel
theorem dX8_readTape_11 : decode cX8_readTape 11 = .ok (.iconst 0, 1) := by decide +kernel
theorem dX8_readTape_12 : decode cX8_readTape 12 = .ok (.putfield 32, 3) := by decide +kernel
theorem dX8_readTape_15 : decode cX8_readTape 15 = .ok (.aload_n 0, 1) := by decide +kernel
theorem dX8_readTape_16 : decode cX8_readTape 16 = .ok (.iconst 2, 1) := by decide +kernel
theorem dX8_readTape_17 : decode cX8_readTape 17 = .ok (.putfield 35, 3) := by decide +kernel
theorem dX8_readTape_20 : decode cX8_readTape 20 = .ok (.aload_n 0, 1) := by decide +kernel
theorem dX8_readTape_21 : decode cX8_readTape 21 = .ok (.getfield 21, 3) := by decide +kernel
theorem dX8_readTape_24 : decode cX8_readTape 24 = .ok (.invokevirtual 38, 3) := by decide +kernel
theorem dX8_readTape_27 : decode cX8_readTape 27 = .ok (.aload_n 0, 1) := by decide +kernel
theorem dX8_readTape_28 : decode cX8_readTape 28 = .ok (.invokevirtual 43, 3) := by decide +kernel
theorem dX8_readTape_31 : decode cX8_readTape 31 = .ok (.pop, 1) := by decide +kernel
theorem dX8_readTape_32 : decode cX8_readTape 32 = .ok (.aload_n 0, 1) := by decide +kernel
theorem dX8_readTape_33 : decode cX8_readTape 33 = .ok (.bipush 45, 2) := by decide +kernel
theorem dX8_readTape_35 : decode cX8_readTape 35 = .ok (.invokevirtual 47, 3) := by decide +kernel
theorem dX8_readTape_38 : decode cX8_readTape 38 = .ok (.ifCond .eq 11, 3) := by decide +kernel
theorem dX8_readTape_41 : decode cX8_readTape 41 = .ok (.aload_n 0, 1) := by decide +kernel
theorem dX8_readTape_42 : decode cX8_readTape 42 = .ok (.iconst (-1), 1) := by decide +kernel
theorem dX8_readTape_43 : decode cX8_readTape 43 = .ok (.iconst 0, 1) := by decide +kernel
theorem dX8_readTape_44 : decode cX8_readTape 44 = .ok (.iconst 0, 1) := by decide +kernel
theorem dX8_readTape_45 : decode cX8_readTape 45 = .ok (.iconst 0, 1) := by decide +kernel
theorem dX8_readTape_46 : decode cX8_readTape 46 = .ok (.invokevirtual 51, 3) := by decide +kernel
theorem dX8_readTape_49 : decode cX8_readTape 49 = .ok (.aload_n 0, 1) := by decide +kernel
theorem dX8_readTape_50 : decode cX8_readTape 50 = .ok (.invokevirtual 55, 3) := by decide +kernel
theorem dX8_readTape_53 : decode cX8_readTape 53 = .ok (.ifCond .ne 5, 3) := by decide +kernel
theorem dX8_readTape_56 : decode cX8_readTape 56 = .ok (.iconst 0, 1) := by decide +kernel
theorem dX8_readTape_57 : decode cX8_readTape 57 = .ok (.ireturn, 1) := by decide +kernel
theorem dX8_readTape_58 : decode cX8_readTape 58 = .ok (.iconst 0, 1) := by decide +kernel
theorem dX8_readTape_59 : decode cX8_readTape 59 = .ok (.istore_n 1, 1) := by decide +kernel
theorem dX8_readTape_60 : decode cX8_readTape 60 = .ok (.iload_n 1, 1) := by decide +kernel
theorem dX8_readTape_61 : decode cX8_readTape 61 = .ok (.iconst 4, 1) := by decide +kernel
theorem dX8_readTape_62 : decode cX8_readTape 62 = .ok (.if_icmp .ge 40, 3) := by decide +kernel
theorem dX8_readTape_65 : decode cX8_readTape 65 = .ok (.aload_n 0, 1) := by decide +kernel
theorem dX8_readTape_66 : decode cX8_readTape 66 = .ok (.invokevirtual 43, 3) := by decide +kernel
theorem dX8_readTape_69 : decode cX8_readTape 69 = .ok (.istore_n 2, 1) := by decide +kernel
theorem dX8_readTape_70 : decode cX8_readTape 70 = .ok (.iload_n 1, 1) := by decide +kernel
theorem dX8_readTape_71 : decode cX8_readTape 71 = .ok (.ifCond .le 12, 3) := by decide +kernel
theorem dX8_readTape_74 : decode cX8_readTape 74 = .ok (.aload_n 0, 1) := by decide +kernel
theorem dX8_readTape_75 : decode cX8_readTape 75 = .ok (.invokevirtual 59, 3) := by decide +kernel
theorem dX8_readTape_78 : decode cX8_readTape 78 = .ok (.ifCond .eq 5, 3) := by decide +kernel
theorem dX8_readTape_81 : decode cX8_readTape 81 = .ok (.iconst 1, 1) := by decide +kernel
theorem dX8_readTape_82 : decode cX8_readTape 82 = .ok (.ireturn, 1) := by decide +kernel
theorem dX8_readTape_83 : decode cX8_readTape 83 = .ok (.iload_n 2, 1) := by decide +kernel
theorem dX8_readTape_84 : decode cX8_readTape 84 = .ok (.ifCond .eq 10, 3) := by decide +kernel
theorem dX8_readTape_87 : decode cX8_readTape 87 = .ok (.aload_n 0, 1) := by decide +kernel
theorem dX8_readTape_88 : decode cX8_readTape 88 = .ok (.invokevirtual 62, 3) := by decide +kernel
theorem dX8_readTape_91 : decode cX8_readTape 91 = .ok (.ifCond .ne 5, 3) := by decide +kernel
theorem dX8_readTape_94 : decode cX8_readTape 94 = .ok (.iconst 0, 1) := by decide +kernel
theorem dX8_readTape_95 : decode cX8_readTape 95 = .ok (.ireturn, 1) := by decide +kernel
theorem dX8_readTape_96 : decode cX8_readTape 96 = .ok (.iinc 1 1, 3) := by decide +kernel
theorem dX8_readTape_99 : decode cX8_readTape 99 = .ok (.goto (-39), 3) := by decide +kernel
theorem dX8_readTape_102 : decode cX8_readTape 102 = .ok (.aload_n 0, 1) := by decide +kernel
theorem dX8_readTape_103 : decode cX8_readTape 103 = .ok (.invokevirtual 43, 3) := by decide +kernel
theorem dX8_readTape_106 : decode cX8_readTape 106 = .ok (.pop, 1) := by decide +kernel
theorem dX8_readTape_107 : decode cX8_readTape 107 = .ok (.aload_n 0, 1) := by decide +kernel
theorem dX8_readTape_108 : decode cX8_readTape 108 = .ok (.invokevirtual 59, 3) := by decide +kernel
theorem dX8_readTape_111 : decode cX8_readTape 111 = .ok (.ireturn, 1) := by decide +kernel
theorem dX8_isAtEnd_0 : decode cX8_isAtEnd 0 = .ok (.aload_n 0, 1) := by decide +kernel
theorem dX8_isAtEnd_1 : decode cX8_isAtEnd 1 = .ok (.getfield 25, 3) := by decide +kernel
theorem dX8_isAtEnd_4 : decode cX8_isAtEnd 4 = .ok (.aload_n 0, 1) := by decide +kernel
theorem dX8_isAtEnd_5 : decode cX8_isAtEnd 5 = .ok (.getfield 17, 3) := by decide +kernel
theorem dX8_isAtEnd_8 : decode cX8_isAtEnd 8 = .ok (.getfield 65, 3) := by decide +kernel
theorem dX8_isAtEnd_11 : decode cX8_isAtEnd 11 = .ok (.if_icmp .lt 7, 3) := by decide +kernel
theorem dX8_isAtEnd_14 : decode cX8_isAtEnd 14 = .ok (.iconst 1, 1) := by decide +kernel
theorem dX8_isAtEnd_15 : decode cX8_isAtEnd 15 = .ok (.goto 4, 3) := by decide +kernel
theorem dX8_isAtEnd_18 : decode cX8_isAtEnd 18 = .ok (.iconst 0, 1) := by decide +kernel
theorem dX8_isAtEnd_19 : decode cX8_isAtEnd 19 = .ok (.ireturn, 1) := by decide +kernel
theorem dX8_skipBlanks_0 : decode cX8_skipBlanks 0 = .ok (.aload_n 0, 1) := by decide +kernel
theorem dX8_skipBlanks_1 : decode cX8_skipBlanks 1 = .ok (.getfield 25, 3) := by decide +kernel
theorem dX8_skipBlanks_4 : decode cX8_skipBlanks 4 = .ok (.istore_n 1, 1) := by decide +kernel
theorem dX8_skipBlanks_5 : decode cX8_skipBlanks 5 = .ok (.aload_n 0, 1) := by decide +kernel
theorem dX8_skipBlanks_6 : decode cX8_skipBlanks 6 = .ok (.getfield 25, 3) := by decide +kernel
theorem dX8_skipBlanks_9 : decode cX8_skipBlanks 9 = .ok (.aload_n 0, 1) := by decide +kernel
theorem dX8_skipBlanks_10 : decode cX8_skipBlanks 10 = .ok (.getfield 17, 3) := by decide +kernel
theorem dX8_skipBlanks_13 : decode cX8_skipBlanks 13 = .ok (.getfield 65, 3) := by decide +kernel
theorem dX8_skipBlanks_16 : decode cX8_skipBlanks 16 = .ok (.if_icmp .ge 32, 3) := by decide +kernel
theorem dX8_skipBlanks_19 : decode cX8_skipBlanks 19 = .ok (.aload_n 0, 1) := by decide +kernel
theorem dX8_skipBlanks_20 : decode cX8_skipBlanks 20 = .ok (.getfield 17, 3) := by decide +kernel
theorem dX8_skipBlanks_23 : decode cX8_skipBlanks 23 = .ok (.aload_n 0, 1) := by decide +kernel
theorem dX8_skipBlanks_24 : decode cX8_skipBlanks 24 = .ok (.getfield 25, 3) := by decide +kernel
theorem dX8_skipBlanks_27 : decode cX8_skipBlanks 27 = .ok (.invokevirtual 70, 3) := by decide +kernel
theorem dX8_skipBlanks_30 : decode cX8_skipBlanks 30 = .ok (.bipush 32, 2) := by decide +kernel
theorem dX8_skipBlanks_32 : decode cX8_skipBlanks 32 = .ok (.if_icmp .ne 16, 3) := by decide +kernel
theorem dX8_skipBlanks_35 : decode cX8_skipBlanks 35 = .ok (.aload_n 0, 1) := by decide +kernel
theorem dX8_skipBlanks_36 : decode cX8_skipBlanks 36 = .ok (.dup, 1) := by decide +kernel
theorem dX8_skipBlanks_37 : decode cX8_skipBlanks 37 = .ok (.getfield 25, 3) := by decide +kernel
theorem dX8_skipBlanks_40 : decode cX8_skipBlanks 40 = .ok (.iconst 1, 1) := by decide +kernel
theorem dX8_skipBlanks_41 : decode cX8_skipBlanks 41 = .ok (.iadd, 1) := by decide +kernel
theorem dX8_skipBlanks_42 : decode cX8_skipBlanks 42 = .ok (.putfield 25, 3) := by decide +kernel
theorem dX8_skipBlanks_45 : decode cX8_skipBlanks 45 = .ok (.goto (-40), 3) := by decide +kernel
theorem dX8_skipBlanks_48 : decode cX8_skipBlanks 48 = .ok (.aload_n 0, 1) := by decide +kernel
theorem dX8_skipBlanks_49 : decode cX8_skipBlanks 49 = .ok (.getfield 25, 3) := by decide +kernel
theorem dX8_skipBlanks_52 : decode cX8_skipBlanks 52 = .ok (.iload_n 1, 1) := by decide +kernel
theorem dX8_skipBlanks_53 : decode cX8_skipBlanks 53 = .ok (.isub, 1) := by decide +kernel
theorem dX8_skipBlanks_54 : decode cX8_skipBlanks 54 = .ok (.ireturn, 1) := by decide +kernel
theorem dX8_takes_0 : decode cX8_takes 0 = .ok (.aload_n 0, 1) := by decide +kernel
theorem dX8_takes_1 : decode cX8_takes 1 = .ok (.getfield 17, 3) := by decide +kernel
theorem dX8_takes_4 : decode cX8_takes 4 = .ok (.aload_n 0, 1) := by decide +kernel
theorem dX8_takes_5 : decode cX8_takes 5 = .ok (.getfield 25, 3) := by decide +kernel
theorem dX8_takes_8 : decode cX8_takes 8 = .ok (.invokevirtual 70, 3) := by decide +kernel
theorem dX8_takes_11 : decode cX8_takes 11 = .ok (.iload_n 1, 1) := by decide +kernel
theorem dX8_takes_12 : decode cX8_takes 12 = .ok (.if_icmp .eq 5, 3) := by decide +kernel
theorem dX8_takes_15 : decode cX8_takes 15 = .ok (.iconst 0, 1) := by decide +kernel
theorem dX8_takes_16 : decode cX8_takes 16 = .ok (.ireturn, 1) := by decide +kernel
theorem dX8_takes_17 : decode cX8_takes 17 = .ok (.aload_n 0, 1) := by decide +kernel
theorem dX8_takes_18 : decode cX8_takes 18 = .ok (.dup, 1) := by decide +kernel
theorem dX8_takes_19 : decode cX8_takes 19 = .ok (.getfield 25, 3) := by decide +kernel
theorem dX8_takes_22 : decode cX8_takes 22 = .ok (.iconst 1, 1) := by decide +kernel
theorem dX8_takes_23 : decode cX8_takes 23 = .ok (.iadd, 1) := by decide +kernel
theorem dX8_takes_24 : decode cX8_takes 24 = .ok (.putfield 25, 3) := by decide +kernel
theorem dX8_takes_27 : decode cX8_takes 27 = .ok (.iconst 1, 1) := by decide +kernel
theorem dX8_takes_28 : decode cX8_takes 28 = .ok (.ireturn, 1) := by decide +kernel
theorem dX8_readLattice_0 : decode cX8_readLattice 0 = .ok (.aload_n 0, 1) := by decide +kernel
theorem dX8_readLattice_1 : decode cX8_readLattice 1 = .ok (.getfield 17, 3) := by decide +kernel
theorem dX8_readLattice_4 : decode cX8_readLattice 4 = .ok (.aload_n 0, 1) := by decide +kernel
theorem dX8_readLattice_5 : decode cX8_readLattice 5 = .ok (.getfield 25, 3) := by decide +kernel
theorem dX8_readLattice_8 : decode cX8_readLattice 8 = .ok (.invokevirtual 70, 3) := by decide +kernel
theorem dX8_readLattice_11 : decode cX8_readLattice 11 = .ok (.tableswitch 196 65 82 #[88, 101, 114, 196, 196, 163, 196, 196, 127, 196, 196, 196, 196, 196, 196, 85, 196, 141], 85) := by decide +kernel
theorem dX8_readLattice_96 : decode cX8_readLattice 96 = .ok (.goto 113, 3) := by decide +kernel
theorem dX8_readLattice_99 : decode cX8_readLattice 99 = .ok (.aload_n 0, 1) := by decide +kernel
theorem dX8_readLattice_100 : decode cX8_readLattice 100 = .ok (.iconst 1, 1) := by decide +kernel
theorem dX8_readLattice_101 : decode cX8_readLattice 101 = .ok (.iconst 0, 1) := by decide +kernel
theorem dX8_readLattice_102 : decode cX8_readLattice 102 = .ok (.bipush 6, 2) := by decide +kernel
theorem dX8_readLattice_104 : decode cX8_readLattice 104 = .ok (.bipush 6, 2) := by decide +kernel
theorem dX8_readLattice_106 : decode cX8_readLattice 106 = .ok (.invokevirtual 51, 3) := by decide +kernel
theorem dX8_readLattice_109 : decode cX8_readLattice 109 = .ok (.goto 100, 3) := by decide +kernel
theorem dX8_readLattice_112 : decode cX8_readLattice 112 = .ok (.aload_n 0, 1) := by decide +kernel
theorem dX8_readLattice_113 : decode cX8_readLattice 113 = .ok (.iconst 1, 1) := by decide +kernel
theorem dX8_readLattice_114 : decode cX8_readLattice 114 = .ok (.bipush 6, 2) := by decide +kernel
theorem dX8_readLattice_116 : decode cX8_readLattice 116 = .ok (.iconst 0, 1) := by decide +kernel
theorem dX8_readLattice_117 : decode cX8_readLattice 117 = .ok (.bipush 6, 2) := by decide +kernel
theorem dX8_readLattice_119 : decode cX8_readLattice 119 = .ok (.invokevirtual 51, 3) := by decide +kernel
theorem dX8_readLattice_122 : decode cX8_readLattice 122 = .ok (.goto 87, 3) := by decide +kernel
theorem dX8_readLattice_125 : decode cX8_readLattice 125 = .ok (.aload_n 0, 1) := by decide +kernel
theorem dX8_readLattice_126 : decode cX8_readLattice 126 = .ok (.iconst 1, 1) := by decide +kernel
theorem dX8_readLattice_127 : decode cX8_readLattice 127 = .ok (.bipush 6, 2) := by decide +kernel
theorem dX8_readLattice_129 : decode cX8_readLattice 129 = .ok (.bipush 6, 2) := by decide +kernel
theorem dX8_readLattice_131 : decode cX8_readLattice 131 = .ok (.iconst 0, 1) := by decide +kernel
theorem dX8_readLattice_132 : decode cX8_readLattice 132 = .ok (.invokevirtual 51, 3) := by decide +kernel
theorem dX8_readLattice_135 : decode cX8_readLattice 135 = .ok (.goto 74, 3) := by decide +kernel
theorem dX8_readLattice_138 : decode cX8_readLattice 138 = .ok (.aload_n 0, 1) := by decide +kernel
theorem dX8_readLattice_139 : decode cX8_readLattice 139 = .ok (.iconst 1, 1) := by decide +kernel
theorem dX8_readLattice_140 : decode cX8_readLattice 140 = .ok (.bipush 6, 2) := by decide +kernel
theorem dX8_readLattice_142 : decode cX8_readLattice 142 = .ok (.bipush 6, 2) := by decide +kernel
theorem dX8_readLattice_144 : decode cX8_readLattice 144 = .ok (.bipush 6, 2) := by decide +kernel
theorem dX8_readLattice_146 : decode cX8_readLattice 146 = .ok (.invokevirtual 51, 3) := by decide +kernel
theorem dX8_readLattice_149 : decode cX8_readLattice 149 = .ok (.goto 60, 3) := by decide +kernel
theorem dX8_readLattice_152 : decode cX8_readLattice 152 = .ok (.aload_n 0, 1) := by decide +kernel
theorem dX8_readLattice_153 : decode cX8_readLattice 153 = .ok (.iconst 1, 1) := by decide +kernel
theorem dX8_readLattice_154 : decode cX8_readLattice 154 = .ok (.bipush 8, 2) := by decide +kernel
theorem dX8_readLattice_156 : decode cX8_readLattice 156 = .ok (.iconst 4, 1) := by decide +kernel
theorem dX8_readLattice_157 : decode cX8_readLattice 157 = .ok (.iconst 4, 1) := by decide +kernel
theorem dX8_readLattice_158 : decode cX8_readLattice 158 = .ok (.invokevirtual 51, 3) := by decide +kernel
theorem dX8_readLattice_161 : decode cX8_readLattice 161 = .ok (.aload_n 0, 1) := by decide +kernel
theorem dX8_readLattice_162 : decode cX8_readLattice 162 = .ok (.iconst 1, 1) := by decide +kernel
theorem dX8_readLattice_163 : decode cX8_readLattice 163 = .ok (.iconst 4, 1) := by decide +kernel
theorem dX8_readLattice_164 : decode cX8_readLattice 164 = .ok (.bipush 8, 2) := by decide +kernel
theorem dX8_readLattice_166 : decode cX8_readLattice 166 = .ok (.bipush 8, 2) := by decide +kernel
theorem dX8_readLattice_168 : decode cX8_readLattice 168 = .ok (.invokevirtual 51, 3) := by decide +kernel
theorem dX8_readLattice_171 : decode cX8_readLattice 171 = .ok (.goto 38, 3) := by decide +kernel
theorem dX8_readLattice_174 : decode cX8_readLattice 174 = .ok (.aload_n 0, 1) := by decide +kernel
theorem dX8_readLattice_175 : decode cX8_readLattice 175 = .ok (.iconst 1, 1) := by decide +kernel
theorem dX8_readLattice_176 : decode cX8_readLattice 176 = .ok (.iconst 0, 1) := by decide +kernel
theorem dX8_readLattice_177 : decode cX8_readLattice 177 = .ok (.bipush 6, 2) := by decide +kernel
theorem dX8_readLattice_179 : decode cX8_readLattice 179 = .ok (.bipush 6, 2) := by decide +kernel
theorem dX8_readLattice_181 : decode cX8_readLattice 181 = .ok (.invokevirtual 51, 3) := by decide +kernel
theorem dX8_readLattice_184 : decode cX8_readLattice 184 = .ok (.aload_n 0, 1) := by decide +kernel
theorem dX8_readLattice_185 : decode cX8_readLattice 185 = .ok (.iconst 1, 1) := by decide +kernel
theorem dX8_readLattice_186 : decode cX8_readLattice 186 = .ok (.bipush 6, 2) := by decide +kernel
theorem dX8_readLattice_188 : decode cX8_readLattice 188 = .ok (.iconst 0, 1) := by decide +kernel
theorem dX8_readLattice_189 : decode cX8_readLattice 189 = .ok (.bipush 6, 2) := by decide +kernel
theorem dX8_readLattice_191 : decode cX8_readLattice 191 = .ok (.invokevirtual 51, 3) := by decide +kernel
theorem dX8_readLattice_194 : decode cX8_readLattice 194 = .ok (.aload_n 0, 1) := by decide +kernel
theorem dX8_readLattice_195 : decode cX8_readLattice 195 = .ok (.iconst 1, 1) := by decide +kernel
theorem dX8_readLattice_196 : decode cX8_readLattice 196 = .ok (.bipush 6, 2) := by decide +kernel
theorem dX8_readLattice_198 : decode cX8_readLattice 198 = .ok (.bipush 6, 2) := by decide +kernel
theorem dX8_readLattice_200 : decode cX8_readLattice 200 = .ok (.iconst 0, 1) := by decide +kernel
theorem dX8_readLattice_201 : decode cX8_readLattice 201 = .ok (.invokevirtual 51, 3) := by decide +kernel
theorem dX8_readLattice_204 : decode cX8_readLattice 204 = .ok (.goto 5, 3) := by decide +kernel
theorem dX8_readLattice_207 : decode cX8_readLattice 207 = .ok (.iconst 0, 1) := by decide +kernel
theorem dX8_readLattice_208 : decode cX8_readLattice 208 = .ok (.ireturn, 1) := by decide +kernel
theorem dX8_readLattice_209 : decode cX8_readLattice 209 = .ok (.aload_n 0, 1) := by decide +kernel
theorem dX8_readLattice_210 : decode cX8_readLattice 210 = .ok (.dup, 1) := by decide +kernel
theorem dX8_readLattice_211 : decode cX8_readLattice 211 = .ok (.getfield 25, 3) := by decide +kernel
theorem dX8_readLattice_214 : decode cX8_readLattice 214 = .ok (.iconst 1, 1) := by decide +kernel
theorem dX8_readLattice_215 : decode cX8_readLattice 215 = .ok (.iadd, 1) := by decide +kernel
theorem dX8_readLattice_216 : decode cX8_readLattice 216 = .ok (.putfield 25, 3) := by decide +kernel
theorem dX8_readLattice_219 : decode cX8_readLattice 219 = .ok (.iconst 1, 1) := by decide +kernel
theorem dX8_readLattice_220 : decode cX8_readLattice 220 = .ok (.ireturn, 1) := by decide +kernel
theorem dX8_addPlain_0 : decode cX8_addPlain 0 = .ok (.aload_n 0, 1) := by decide +kernel
theorem dX8_addPlain_1 : decode cX8_addPlain 1 = .ok (.iconst 0, 1) := by decide +kernel
theorem dX8_addPlain_2 : decode cX8_addPlain 2 = .ok (.iconst 0, 1) := by decide +kernel
theorem dX8_addPlain_3 : decode cX8_addPlain 3 = .ok (.iload_n 1, 1) := by decide +kernel
theorem dX8_addPlain_4 : decode cX8_addPlain 4 = .ok (.invokevirtual 74, 3) := by decide +kernel
theorem dX8_addPlain_7 : decode cX8_addPlain 7 = .ok (.aload_n 0, 1) := by decide +kernel
theorem dX8_addPlain_8 : decode cX8_addPlain 8 = .ok (.iload_n 2, 1) := by decide +kernel
theorem dX8_addPlain_9 : decode cX8_addPlain 9 = .ok (.iload_n 3, 1) := by decide +kernel
theorem dX8_addPlain_10 : decode cX8_addPlain 10 = .ok (.iload 4, 2) := by decide +kernel
theorem dX8_addPlain_12 : decode cX8_addPlain 12 = .ok (.invokevirtual 78, 3) := by decide +kernel
theorem dX8_addPlain_15 : decode cX8_addPlain 15 = .ok (.pop, 1) := by decide +kernel
theorem dX8_addPlain_16 : decode cX8_addPlain 16 = .ok (.aload_n 0, 1) := by decide +kernel
theorem dX8_addPlain_17 : decode cX8_addPlain 17 = .ok (.getfield 21, 3) := by decide +kernel
theorem dX8_addPlain_20 : decode cX8_addPlain 20 = .ok (.aload_n 0, 1) := by decide +kernel
theorem dX8_addPlain_21 : decode cX8_addPlain 21 = .ok (.getfield 11, 3) := by decide +kernel
theorem dX8_addPlain_24 : decode cX8_addPlain 24 = .ok (.invokevirtual 82, 3) := by decide +kernel
theorem dX8_addPlain_27 : decode cX8_addPlain 27 = .ok (.return_, 1) := by decide +kernel
theorem dX8_readMatrix_0 : decode cX8_readMatrix 0 = .ok (.aload_n 0, 1) := by decide +kernel
theorem dX8_readMatrix_1 : decode cX8_readMatrix 1 = .ok (.bipush 45, 2) := by decide +kernel
theorem dX8_readMatrix_3 : decode cX8_readMatrix 3 = .ok (.invokevirtual 47, 3) := by decide +kernel
theorem dX8_readMatrix_6 : decode cX8_readMatrix 6 = .ok (.ifCond .eq 7, 3) := by decide +kernel
theorem dX8_readMatrix_9 : decode cX8_readMatrix 9 = .ok (.iconst (-1), 1) := by decide +kernel
theorem dX8_readMatrix_10 : decode cX8_readMatrix 10 = .ok (.goto 4, 3) := by decide +kernel
theorem dX8_readMatrix_13 : decode cX8_readMatrix 13 = .ok (.iconst 1, 1) := by decide +kernel
theorem dX8_readMatrix_14 : decode cX8_readMatrix 14 = .ok (.istore_n 1, 1) := by decide +kernel
theorem dX8_readMatrix_15 : decode cX8_readMatrix 15 = .ok (.aload_n 0, 1) := by decide +kernel
theorem dX8_readMatrix_16 : decode cX8_readMatrix 16 = .ok (.getfield 17, 3) := by decide +kernel
theorem dX8_readMatrix_19 : decode cX8_readMatrix 19 = .ok (.aload_n 0, 1) := by decide +kernel
theorem dX8_readMatrix_20 : decode cX8_readMatrix 20 = .ok (.getfield 25, 3) := by decide +kernel
theorem dX8_readMatrix_23 : decode cX8_readMatrix 23 = .ok (.invokevirtual 70, 3) := by decide +kernel
theorem dX8_readMatrix_26 : decode cX8_readMatrix 26 = .ok (.invokestatic 86, 3) := by decide +kernel
theorem dX8_readMatrix_29 : decode cX8_readMatrix 29 = .ok (.istore_n 2, 1) := by decide +kernel
theorem dX8_readMatrix_30 : decode cX8_readMatrix 30 = .ok (.iload_n 2, 1) := by decide +kernel
theorem dX8_readMatrix_31 : decode cX8_readMatrix 31 = .ok (.iconst (-1), 1) := by decide +kernel
theorem dX8_readMatrix_32 : decode cX8_readMatrix 32 = .ok (.if_icmp .ne 5, 3) := by decide +kernel
theorem dX8_readMatrix_35 : decode cX8_readMatrix 35 = .ok (.iconst 0, 1) := by decide +kernel
theorem dX8_readMatrix_36 : decode cX8_readMatrix 36 = .ok (.ireturn, 1) := by decide +kernel
theorem dX8_readMatrix_37 : decode cX8_readMatrix 37 = .ok (.aload_n 0, 1) := by decide +kernel
theorem dX8_readMatrix_38 : decode cX8_readMatrix 38 = .ok (.dup, 1) := by decide +kernel
theorem dX8_readMatrix_39 : decode cX8_readMatrix 39 = .ok (.getfield 25, 3) := by decide +kernel
theorem dX8_readMatrix_42 : decode cX8_readMatrix 42 = .ok (.iconst 1, 1) := by decide +kernel
theorem dX8_readMatrix_43 : decode cX8_readMatrix 43 = .ok (.iadd, 1) := by decide +kernel
theorem dX8_readMatrix_44 : decode cX8_readMatrix 44 = .ok (.putfield 25, 3) := by decide +kernel
theorem dX8_readMatrix_47 : decode cX8_readMatrix 47 = .ok (.aload_n 0, 1) := by decide +kernel
theorem dX8_readMatrix_48 : decode cX8_readMatrix 48 = .ok (.iload_n 2, 1) := by decide +kernel
theorem dX8_readMatrix_49 : decode cX8_readMatrix 49 = .ok (.invokevirtual 89, 3) := by decide +kernel
theorem dX8_readMatrix_52 : decode cX8_readMatrix 52 = .ok (.istore_n 3, 1) := by decide +kernel
theorem dX8_readMatrix_53 : decode cX8_readMatrix 53 = .ok (.iload_n 3, 1) := by decide +kernel
theorem dX8_readMatrix_54 : decode cX8_readMatrix 54 = .ok (.bipush 7, 2) := by decide +kernel
theorem dX8_readMatrix_56 : decode cX8_readMatrix 56 = .ok (.if_icmp .ne 5, 3) := by decide +kernel
theorem dX8_readMatrix_59 : decode cX8_readMatrix 59 = .ok (.iconst 0, 1) := by decide +kernel
theorem dX8_readMatrix_60 : decode cX8_readMatrix 60 = .ok (.ireturn, 1) := by decide +kernel
theorem dX8_readMatrix_61 : decode cX8_readMatrix 61 = .ok (.aload_n 0, 1) := by decide +kernel
theorem dX8_readMatrix_62 : decode cX8_readMatrix 62 = .ok (.iload_n 2, 1) := by decide +kernel
theorem dX8_readMatrix_63 : decode cX8_readMatrix 63 = .ok (.iload_n 3, 1) := by decide +kernel
theorem dX8_readMatrix_64 : decode cX8_readMatrix 64 = .ok (.invokestatic 92, 3) := by decide +kernel
theorem dX8_readMatrix_67 : decode cX8_readMatrix 67 = .ok (.aload_n 0, 1) := by decide +kernel
theorem dX8_readMatrix_68 : decode cX8_readMatrix 68 = .ok (.iload_n 3, 1) := by decide +kernel
theorem dX8_readMatrix_69 : decode cX8_readMatrix 69 = .ok (.invokevirtual 96, 3) := by decide +kernel
theorem dX8_readMatrix_72 : decode cX8_readMatrix 72 = .ok (.iload_n 1, 1) := by decide +kernel
theorem dX8_readMatrix_73 : decode cX8_readMatrix 73 = .ok (.invokevirtual 74, 3) := by decide +kernel
theorem dX8_readMatrix_76 : decode cX8_readMatrix 76 = .ok (.aload_n 0, 1) := by decide +kernel
theorem dX8_readMatrix_77 : decode cX8_readMatrix 77 = .ok (.iload_n 2, 1) := by decide +kernel
theorem dX8_readMatrix_78 : decode cX8_readMatrix 78 = .ok (.iload_n 3, 1) := by decide +kernel
theorem dX8_readMatrix_79 : decode cX8_readMatrix 79 = .ok (.invokevirtual 99, 3) := by decide +kernel
theorem dX8_readMatrix_82 : decode cX8_readMatrix 82 = .ok (.aload_n 0, 1) := by decide +kernel
theorem dX8_readMatrix_83 : decode cX8_readMatrix 83 = .ok (.getfield 21, 3) := by decide +kernel
theorem dX8_readMatrix_86 : decode cX8_readMatrix 86 = .ok (.aload_n 0, 1) := by decide +kernel
theorem dX8_readMatrix_87 : decode cX8_readMatrix 87 = .ok (.getfield 11, 3) := by decide +kernel
theorem dX8_readMatrix_90 : decode cX8_readMatrix 90 = .ok (.invokevirtual 82, 3) := by decide +kernel
theorem dX8_readMatrix_93 : decode cX8_readMatrix 93 = .ok (.aload_n 0, 1) := by decide +kernel
theorem dX8_readMatrix_94 : decode cX8_readMatrix 94 = .ok (.iload_n 2, 1) := by decide +kernel
theorem dX8_readMatrix_95 : decode cX8_readMatrix 95 = .ok (.iload_n 3, 1) := by decide +kernel
theorem dX8_readMatrix_96 : decode cX8_readMatrix 96 = .ok (.invokevirtual 103, 3) := by decide +kernel
theorem dX8_readMatrix_99 : decode cX8_readMatrix 99 = .ok (.iconst 1, 1) := by decide +kernel
theorem dX8_readMatrix_100 : decode cX8_readMatrix 100 = .ok (.ireturn, 1) := by decide +kernel
theorem dX8_foldOf_0 : decode cX8_foldOf 0 = .ok (.iload_n 0, 1) := by decide +kernel
theorem dX8_foldOf_1 : decode cX8_foldOf 1 = .ok (.tableswitch 44 49 54 #[39, 39, 39, 39, 44, 39], 39) := by decide +kernel
theorem dX8_foldOf_40 : decode cX8_foldOf 40 = .ok (.iload_n 0, 1) := by decide +kernel
theorem dX8_foldOf_41 : decode cX8_foldOf 41 = .ok (.bipush 48, 2) := by decide +kernel
theorem dX8_foldOf_43 : decode cX8_foldOf 43 = .ok (.isub, 1) := by decide +kernel
theorem dX8_foldOf_44 : decode cX8_foldOf 44 = .ok (.ireturn, 1) := by decide +kernel
theorem dX8_foldOf_45 : decode cX8_foldOf 45 = .ok (.iconst (-1), 1) := by decide +kernel
theorem dX8_foldOf_46 : decode cX8_foldOf 46 = .ok (.ireturn, 1) := by decide +kernel
theorem dX8_readAxis_0 : decode cX8_readAxis 0 = .ok (.iload_n 1, 1) := by decide +kernel
theorem dX8_readAxis_1 : decode cX8_readAxis 1 = .ok (.aload_n 0, 1) := by decide +kernel
theorem dX8_readAxis_2 : decode cX8_readAxis 2 = .ok (.getfield 17, 3) := by decide +kernel
theorem dX8_readAxis_5 : decode cX8_readAxis 5 = .ok (.aload_n 0, 1) := by decide +kernel
theorem dX8_readAxis_6 : decode cX8_readAxis 6 = .ok (.getfield 25, 3) := by decide +kernel
theorem dX8_readAxis_9 : decode cX8_readAxis 9 = .ok (.invokevirtual 70, 3) := by decide +kernel
theorem dX8_readAxis_12 : decode cX8_readAxis 12 = .ok (.invokestatic 106, 3) := by decide +kernel
theorem dX8_readAxis_15 : decode cX8_readAxis 15 = .ok (.istore_n 2, 1) := by decide +kernel
theorem dX8_readAxis_16 : decode cX8_readAxis 16 = .ok (.iload_n 2, 1) := by decide +kernel
theorem dX8_readAxis_17 : decode cX8_readAxis 17 = .ok (.bipush 6, 2) := by decide +kernel
theorem dX8_readAxis_19 : decode cX8_readAxis 19 = .ok (.if_icmp .ne 9, 3) := by decide +kernel
theorem dX8_readAxis_22 : decode cX8_readAxis 22 = .ok (.aload_n 0, 1) := by decide +kernel
theorem dX8_readAxis_23 : decode cX8_readAxis 23 = .ok (.iload_n 1, 1) := by decide +kernel
theorem dX8_readAxis_24 : decode cX8_readAxis 24 = .ok (.invokevirtual 109, 3) := by decide +kernel
theorem dX8_readAxis_27 : decode cX8_readAxis 27 = .ok (.ireturn, 1) := by decide +kernel
theorem dX8_readAxis_28 : decode cX8_readAxis 28 = .ok (.aload_n 0, 1) := by decide +kernel
theorem dX8_readAxis_29 : decode cX8_readAxis 29 = .ok (.dup, 1) := by decide +kernel
theorem dX8_readAxis_30 : decode cX8_readAxis 30 = .ok (.getfield 25, 3) := by decide +kernel
theorem dX8_readAxis_33 : decode cX8_readAxis 33 = .ok (.iconst 1, 1) := by decide +kernel
theorem dX8_readAxis_34 : decode cX8_readAxis 34 = .ok (.iadd, 1) := by decide +kernel
theorem dX8_readAxis_35 : decode cX8_readAxis 35 = .ok (.putfield 25, 3) := by decide +kernel
theorem dX8_readAxis_38 : decode cX8_readAxis 38 = .ok (.iload_n 2, 1) := by decide +kernel
theorem dX8_readAxis_39 : decode cX8_readAxis 39 = .ok (.ireturn, 1) := by decide +kernel
theorem dX8_writtenAxis_0 : decode cX8_writtenAxis 0 = .ok (.iload_n 0, 1) := by decide +kernel
theorem dX8_writtenAxis_1 : decode cX8_writtenAxis 1 = .ok (.iconst 1, 1) := by decide +kernel
theorem dX8_writtenAxis_2 : decode cX8_writtenAxis 2 = .ok (.if_icmp .ne 6, 3) := by decide +kernel
theorem dX8_writtenAxis_5 : decode cX8_writtenAxis 5 = .ok (.bipush 6, 2) := by decide +kernel
theorem dX8_writtenAxis_7 : decode cX8_writtenAxis 7 = .ok (.ireturn, 1) := by decide +kernel
theorem dX8_writtenAxis_8 : decode cX8_writtenAxis 8 = .ok (.iload_n 1, 1) := by decide +kernel
theorem dX8_writtenAxis_9 : decode cX8_writtenAxis 9 = .ok (.lookupswitch 101 #[(34, 77), (39, 65), (42, 89), (120, 59), (121, 61), (122, 63)], 59) := by decide +kernel
theorem dX8_writtenAxis_68 : decode cX8_writtenAxis 68 = .ok (.iconst 0, 1) := by decide +kernel
theorem dX8_writtenAxis_69 : decode cX8_writtenAxis 69 = .ok (.ireturn, 1) := by decide +kernel
theorem dX8_writtenAxis_70 : decode cX8_writtenAxis 70 = .ok (.iconst 1, 1) := by decide +kernel
theorem dX8_writtenAxis_71 : decode cX8_writtenAxis 71 = .ok (.ireturn, 1) := by decide +kernel
theorem dX8_writtenAxis_72 : decode cX8_writtenAxis 72 = .ok (.iconst 2, 1) := by decide +kernel
theorem dX8_writtenAxis_73 : decode cX8_writtenAxis 73 = .ok (.ireturn, 1) := by decide +kernel
theorem dX8_writtenAxis_74 : decode cX8_writtenAxis 74 = .ok (.iload_n 0, 1) := by decide +kernel
theorem dX8_writtenAxis_75 : decode cX8_writtenAxis 75 = .ok (.iconst 2, 1) := by decide +kernel
theorem dX8_writtenAxis_76 : decode cX8_writtenAxis 76 = .ok (.if_icmp .ne 7, 3) := by decide +kernel
theorem dX8_writtenAxis_79 : decode cX8_writtenAxis 79 = .ok (.iconst 3, 1) := by decide +kernel
theorem dX8_writtenAxis_80 : decode cX8_writtenAxis 80 = .ok (.goto 5, 3) := by decide +kernel
theorem dX8_writtenAxis_83 : decode cX8_writtenAxis 83 = .ok (.bipush 6, 2) := by decide +kernel
theorem dX8_writtenAxis_85 : decode cX8_writtenAxis 85 = .ok (.ireturn, 1) := by decide +kernel
theorem dX8_writtenAxis_86 : decode cX8_writtenAxis 86 = .ok (.iload_n 0, 1) := by decide +kernel
theorem dX8_writtenAxis_87 : decode cX8_writtenAxis 87 = .ok (.iconst 2, 1) := by decide +kernel
theorem dX8_writtenAxis_88 : decode cX8_writtenAxis 88 = .ok (.if_icmp .ne 7, 3) := by decide +kernel
theorem dX8_writtenAxis_91 : decode cX8_writtenAxis 91 = .ok (.iconst 4, 1) := by decide +kernel
theorem dX8_writtenAxis_92 : decode cX8_writtenAxis 92 = .ok (.goto 5, 3) := by decide +kernel
theorem dX8_writtenAxis_95 : decode cX8_writtenAxis 95 = .ok (.bipush 6, 2) := by decide +kernel
theorem dX8_writtenAxis_97 : decode cX8_writtenAxis 97 = .ok (.ireturn, 1) := by decide +kernel
theorem dX8_writtenAxis_98 : decode cX8_writtenAxis 98 = .ok (.iload_n 0, 1) := by decide +kernel
theorem dX8_writtenAxis_99 : decode cX8_writtenAxis 99 = .ok (.iconst 3, 1) := by decide +kernel
theorem dX8_writtenAxis_100 : decode cX8_writtenAxis 100 = .ok (.if_icmp .ne 7, 3) := by decide +kernel
theorem dX8_writtenAxis_103 : decode cX8_writtenAxis 103 = .ok (.iconst 5, 1) := by decide +kernel
theorem dX8_writtenAxis_104 : decode cX8_writtenAxis 104 = .ok (.goto 5, 3) := by decide +kernel
theorem dX8_writtenAxis_107 : decode cX8_writtenAxis 107 = .ok (.bipush 6, 2) := by decide +kernel
theorem dX8_writtenAxis_109 : decode cX8_writtenAxis 109 = .ok (.ireturn, 1) := by decide +kernel
theorem dX8_writtenAxis_110 : decode cX8_writtenAxis 110 = .ok (.bipush 6, 2) := by decide +kernel
theorem dX8_writtenAxis_112 : decode cX8_writtenAxis 112 = .ok (.ireturn, 1) := by decide +kernel
theorem dX8_axisByDefault_0 : decode cX8_axisByDefault 0 = .ok (.iload_n 1, 1) := by decide +kernel
theorem dX8_axisByDefault_1 : decode cX8_axisByDefault 1 = .ok (.iconst 1, 1) := by decide +kernel
theorem dX8_axisByDefault_2 : decode cX8_axisByDefault 2 = .ok (.if_icmp .ne 6, 3) := by decide +kernel
theorem dX8_axisByDefault_5 : decode cX8_axisByDefault 5 = .ok (.bipush 6, 2) := by decide +kernel
theorem dX8_axisByDefault_7 : decode cX8_axisByDefault 7 = .ok (.ireturn, 1) := by decide +kernel
theorem dX8_axisByDefault_8 : decode cX8_axisByDefault 8 = .ok (.aload_n 0, 1) := by decide +kernel
theorem dX8_axisByDefault_9 : decode cX8_axisByDefault 9 = .ok (.getfield 29, 3) := by decide +kernel
theorem dX8_axisByDefault_12 : decode cX8_axisByDefault 12 = .ok (.ifCond .ne 5, 3) := by decide +kernel
theorem dX8_axisByDefault_15 : decode cX8_axisByDefault 15 = .ok (.iconst 2, 1) := by decide +kernel
theorem dX8_axisByDefault_16 : decode cX8_axisByDefault 16 = .ok (.ireturn, 1) := by decide +kernel
theorem dX8_axisByDefault_17 : decode cX8_axisByDefault 17 = .ok (.aload_n 0, 1) := by decide +kernel
theorem dX8_axisByDefault_18 : decode cX8_axisByDefault 18 = .ok (.getfield 29, 3) := by decide +kernel
theorem dX8_axisByDefault_21 : decode cX8_axisByDefault 21 = .ok (.iconst 1, 1) := by decide +kernel
theorem dX8_axisByDefault_22 : decode cX8_axisByDefault 22 = .ok (.if_icmp .ne 30, 3) := by decide +kernel
theorem dX8_axisByDefault_25 : decode cX8_axisByDefault 25 = .ok (.iload_n 1, 1) := by decide +kernel
theorem dX8_axisByDefault_26 : decode cX8_axisByDefault 26 = .ok (.iconst 2, 1) := by decide +kernel
theorem dX8_axisByDefault_27 : decode cX8_axisByDefault 27 = .ok (.if_icmp .ne 25, 3) := by decide +kernel
theorem dX8_axisByDefault_30 : decode cX8_axisByDefault 30 = .ok (.aload_n 0, 1) := by decide +kernel
theorem dX8_axisByDefault_31 : decode cX8_axisByDefault 31 = .ok (.getfield 32, 3) := by decide +kernel
theorem dX8_axisByDefault_34 : decode cX8_axisByDefault 34 = .ok (.iconst 2, 1) := by decide +kernel
theorem dX8_axisByDefault_35 : decode cX8_axisByDefault 35 = .ok (.if_icmp .eq 11, 3) := by decide +kernel
theorem dX8_axisByDefault_38 : decode cX8_axisByDefault 38 = .ok (.aload_n 0, 1) := by decide +kernel
theorem dX8_axisByDefault_39 : decode cX8_axisByDefault 39 = .ok (.getfield 32, 3) := by decide +kernel
theorem dX8_axisByDefault_42 : decode cX8_axisByDefault 42 = .ok (.iconst 4, 1) := by decide +kernel
theorem dX8_axisByDefault_43 : decode cX8_axisByDefault 43 = .ok (.if_icmp .ne 7, 3) := by decide +kernel
theorem dX8_axisByDefault_46 : decode cX8_axisByDefault 46 = .ok (.iconst 0, 1) := by decide +kernel
theorem dX8_axisByDefault_47 : decode cX8_axisByDefault 47 = .ok (.goto 4, 3) := by decide +kernel
theorem dX8_axisByDefault_50 : decode cX8_axisByDefault 50 = .ok (.iconst 3, 1) := by decide +kernel
theorem dX8_axisByDefault_51 : decode cX8_axisByDefault 51 = .ok (.ireturn, 1) := by decide +kernel
theorem dX8_axisByDefault_52 : decode cX8_axisByDefault 52 = .ok (.iload_n 1, 1) := by decide +kernel
theorem dX8_axisByDefault_53 : decode cX8_axisByDefault 53 = .ok (.iconst 3, 1) := by decide +kernel
theorem dX8_axisByDefault_54 : decode cX8_axisByDefault 54 = .ok (.if_icmp .ne 7, 3) := by decide +kernel
theorem dX8_axisByDefault_57 : decode cX8_axisByDefault 57 = .ok (.iconst 5, 1) := by decide +kernel
theorem dX8_axisByDefault_58 : decode cX8_axisByDefault 58 = .ok (.goto 5, 3) := by decide +kernel
theorem dX8_axisByDefault_61 : decode cX8_axisByDefault 61 = .ok (.bipush 7, 2) := by decide +kernel
theorem dX8_axisByDefault_63 : decode cX8_axisByDefault 63 = .ok (.ireturn, 1) := by decide +kernel
theorem dX8_rotationOf_0 : decode cX8_rotationOf 0 = .ok (.iload_n 1, 1) := by decide +kernel
theorem dX8_rotationOf_1 : decode cX8_rotationOf 1 = .ok (.tableswitch 36 3 5 #[27, 30, 33], 27) := by decide +kernel
theorem dX8_rotationOf_28 : decode cX8_rotationOf 28 = .ok (.bipush 45, 2) := by decide +kernel
theorem dX8_rotationOf_30 : decode cX8_rotationOf 30 = .ok (.ireturn, 1) := by decide +kernel
theorem dX8_rotationOf_31 : decode cX8_rotationOf 31 = .ok (.bipush 54, 2) := by decide +kernel
theorem dX8_rotationOf_33 : decode cX8_rotationOf 33 = .ok (.ireturn, 1) := by decide +kernel
theorem dX8_rotationOf_34 : decode cX8_rotationOf 34 = .ok (.bipush 63, 2) := by decide +kernel
theorem dX8_rotationOf_36 : decode cX8_rotationOf 36 = .ok (.ireturn, 1) := by decide +kernel
theorem dX8_rotationOf_37 : decode cX8_rotationOf 37 = .ok (.iload_n 0, 1) := by decide +kernel
theorem dX8_rotationOf_38 : decode cX8_rotationOf 38 = .ok (.tableswitch 46 2 6 #[34, 37, 40, 46, 43], 34) := by decide +kernel
theorem dX8_rotationOf_72 : decode cX8_rotationOf 72 = .ok (.bipush 9, 2) := by decide +kernel
theorem dX8_rotationOf_74 : decode cX8_rotationOf 74 = .ok (.ireturn, 1) := by decide +kernel
theorem dX8_rotationOf_75 : decode cX8_rotationOf 75 = .ok (.bipush 18, 2) := by decide +kernel
theorem dX8_rotationOf_77 : decode cX8_rotationOf 77 = .ok (.ireturn, 1) := by decide +kernel
theorem dX8_rotationOf_78 : decode cX8_rotationOf 78 = .ok (.bipush 27, 2) := by decide +kernel
theorem dX8_rotationOf_80 : decode cX8_rotationOf 80 = .ok (.ireturn, 1) := by decide +kernel
theorem dX8_rotationOf_81 : decode cX8_rotationOf 81 = .ok (.bipush 36, 2) := by decide +kernel
theorem dX8_rotationOf_83 : decode cX8_rotationOf 83 = .ok (.ireturn, 1) := by decide +kernel
theorem dX8_rotationOf_84 : decode cX8_rotationOf 84 = .ok (.iconst 0, 1) := by decide +kernel
theorem dX8_rotationOf_85 : decode cX8_rotationOf 85 = .ok (.ireturn, 1) := by decide +kernel
theorem dX8_turnOf_0 : decode cX8_turnOf 0 = .ok (.iload_n 1, 1) := by decide +kernel
theorem dX8_turnOf_1 : decode cX8_turnOf 1 = .ok (.iconst 3, 1) := by decide +kernel
theorem dX8_turnOf_2 : decode cX8_turnOf 2 = .ok (.if_icmp .eq 8, 3) := by decide +kernel
theorem dX8_turnOf_5 : decode cX8_turnOf 5 = .ok (.iload_n 1, 1) := by decide +kernel
theorem dX8_turnOf_6 : decode cX8_turnOf 6 = .ok (.iconst 4, 1) := by decide +kernel
theorem dX8_turnOf_7 : decode cX8_turnOf 7 = .ok (.if_icmp .ne 10, 3) := by decide +kernel
theorem dX8_turnOf_10 : decode cX8_turnOf 10 = .ok (.aload_n 0, 1) := by decide +kernel
theorem dX8_turnOf_11 : decode cX8_turnOf 11 = .ok (.getfield 35, 3) := by decide +kernel
theorem dX8_turnOf_14 : decode cX8_turnOf 14 = .ok (.goto 4, 3) := by decide +kernel
theorem dX8_turnOf_17 : decode cX8_turnOf 17 = .ok (.iload_n 1, 1) := by decide +kernel
theorem dX8_turnOf_18 : decode cX8_turnOf 18 = .ok (.istore_n 2, 1) := by decide +kernel
theorem dX8_turnOf_19 : decode cX8_turnOf 19 = .ok (.iload_n 2, 1) := by decide +kernel
theorem dX8_turnOf_20 : decode cX8_turnOf 20 = .ok (.ifCond .ne 5, 3) := by decide +kernel
theorem dX8_turnOf_23 : decode cX8_turnOf 23 = .ok (.iconst 1, 1) := by decide +kernel
theorem dX8_turnOf_24 : decode cX8_turnOf 24 = .ok (.ireturn, 1) := by decide +kernel
theorem dX8_turnOf_25 : decode cX8_turnOf 25 = .ok (.iload_n 2, 1) := by decide +kernel
theorem dX8_turnOf_26 : decode cX8_turnOf 26 = .ok (.iconst 1, 1) := by decide +kernel
theorem dX8_turnOf_27 : decode cX8_turnOf 27 = .ok (.if_icmp .ne 7, 3) := by decide +kernel
theorem dX8_turnOf_30 : decode cX8_turnOf 30 = .ok (.iconst 2, 1) := by decide +kernel
theorem dX8_turnOf_31 : decode cX8_turnOf 31 = .ok (.goto 4, 3) := by decide +kernel
theorem dX8_turnOf_34 : decode cX8_turnOf 34 = .ok (.iconst 0, 1) := by decide +kernel
theorem dX8_turnOf_35 : decode cX8_turnOf 35 = .ok (.ireturn, 1) := by decide +kernel
theorem dX8_setRotation_0 : decode cX8_setRotation 0 = .ok (.iconst 0, 1) := by decide +kernel
theorem dX8_setRotation_1 : decode cX8_setRotation 1 = .ok (.istore 4, 2) := by decide +kernel
theorem dX8_setRotation_3 : decode cX8_setRotation 3 = .ok (.iload 4, 2) := by decide +kernel
theorem dX8_setRotation_5 : decode cX8_setRotation 5 = .ok (.iconst 3, 1) := by decide +kernel
theorem dX8_setRotation_6 : decode cX8_setRotation 6 = .ok (.if_icmp .ge 63, 3) := by decide +kernel
theorem dX8_setRotation_9 : decode cX8_setRotation 9 = .ok (.iconst 0, 1) := by decide +kernel
theorem dX8_setRotation_10 : decode cX8_setRotation 10 = .ok (.istore 5, 2) := by decide +kernel
theorem dX8_setRotation_12 : decode cX8_setRotation 12 = .ok (.iload 5, 2) := by decide +kernel
theorem dX8_setRotation_14 : decode cX8_setRotation 14 = .ok (.iconst 3, 1) := by decide +kernel
theorem dX8_setRotation_15 : decode cX8_setRotation 15 = .ok (.if_icmp .ge 48, 3) := by decide +kernel
theorem dX8_setRotation_18 : decode cX8_setRotation 18 = .ok (.iload 4, 2) := by decide +kernel
theorem dX8_setRotation_20 : decode cX8_setRotation 20 = .ok (.iload_n 2, 1) := by decide +kernel
theorem dX8_setRotation_21 : decode cX8_setRotation 21 = .ok (.iadd, 1) := by decide +kernel
theorem dX8_setRotation_22 : decode cX8_setRotation 22 = .ok (.iconst 3, 1) := by decide +kernel
theorem dX8_setRotation_23 : decode cX8_setRotation 23 = .ok (.irem, 1) := by decide +kernel
theorem dX8_setRotation_24 : decode cX8_setRotation 24 = .ok (.iconst 3, 1) := by decide +kernel
theorem dX8_setRotation_25 : decode cX8_setRotation 25 = .ok (.imul, 1) := by decide +kernel
theorem dX8_setRotation_26 : decode cX8_setRotation 26 = .ok (.iload 5, 2) := by decide +kernel
theorem dX8_setRotation_28 : decode cX8_setRotation 28 = .ok (.iload_n 2, 1) := by decide +kernel
theorem dX8_setRotation_29 : decode cX8_setRotation 29 = .ok (.iadd, 1) := by decide +kernel
theorem dX8_setRotation_30 : decode cX8_setRotation 30 = .ok (.iconst 3, 1) := by decide +kernel
theorem dX8_setRotation_31 : decode cX8_setRotation 31 = .ok (.irem, 1) := by decide +kernel
theorem dX8_setRotation_32 : decode cX8_setRotation 32 = .ok (.iadd, 1) := by decide +kernel
theorem dX8_setRotation_33 : decode cX8_setRotation 33 = .ok (.istore 6, 2) := by decide +kernel
theorem dX8_setRotation_35 : decode cX8_setRotation 35 = .ok (.aload_n 0, 1) := by decide +kernel
theorem dX8_setRotation_36 : decode cX8_setRotation 36 = .ok (.getfield 11, 3) := by decide +kernel
theorem dX8_setRotation_39 : decode cX8_setRotation 39 = .ok (.iload 6, 2) := by decide +kernel
theorem dX8_setRotation_41 : decode cX8_setRotation 41 = .ok (.iload_n 3, 1) := by decide +kernel
theorem dX8_setRotation_42 : decode cX8_setRotation 42 = .ok (.getstatic 112, 3) := by decide +kernel
theorem dX8_setRotation_45 : decode cX8_setRotation 45 = .ok (.iload_n 1, 1) := by decide +kernel
theorem dX8_setRotation_46 : decode cX8_setRotation 46 = .ok (.iload 4, 2) := by decide +kernel
theorem dX8_setRotation_48 : decode cX8_setRotation 48 = .ok (.iconst 3, 1) := by decide +kernel
theorem dX8_setRotation_49 : decode cX8_setRotation 49 = .ok (.imul, 1) := by decide +kernel
theorem dX8_setRotation_50 : decode cX8_setRotation 50 = .ok (.iadd, 1) := by decide +kernel
theorem dX8_setRotation_51 : decode cX8_setRotation 51 = .ok (.iload 5, 2) := by decide +kernel
theorem dX8_setRotation_53 : decode cX8_setRotation 53 = .ok (.iadd, 1) := by decide +kernel
theorem dX8_setRotation_54 : decode cX8_setRotation 54 = .ok (.iaload, 1) := by decide +kernel
theorem dX8_setRotation_55 : decode cX8_setRotation 55 = .ok (.imul, 1) := by decide +kernel
theorem dX8_setRotation_56 : decode cX8_setRotation 56 = .ok (.iastore, 1) := by decide +kernel
theorem dX8_setRotation_57 : decode cX8_setRotation 57 = .ok (.iinc 5 1, 3) := by decide +kernel
theorem dX8_setRotation_60 : decode cX8_setRotation 60 = .ok (.goto (-48), 3) := by decide +kernel
theorem dX8_setRotation_63 : decode cX8_setRotation 63 = .ok (.iinc 4 1, 3) := by decide +kernel
theorem dX8_setRotation_66 : decode cX8_setRotation 66 = .ok (.goto (-63), 3) := by decide +kernel
theorem dX8_setRotation_69 : decode cX8_setRotation 69 = .ok (.bipush 9, 2) := by decide +kernel
theorem dX8_setRotation_71 : decode cX8_setRotation 71 = .ok (.istore 4, 2) := by decide +kernel
theorem dX8_setRotation_73 : decode cX8_setRotation 73 = .ok (.iload 4, 2) := by decide +kernel
theorem dX8_setRotation_75 : decode cX8_setRotation 75 = .ok (.bipush 12, 2) := by decide +kernel
theorem dX8_setRotation_77 : decode cX8_setRotation 77 = .ok (.if_icmp .ge 17, 3) := by decide +kernel
theorem dX8_setRotation_80 : decode cX8_setRotation 80 = .ok (.aload_n 0, 1) := by decide +kernel
theorem dX8_setRotation_81 : decode cX8_setRotation 81 = .ok (.getfield 11, 3) := by decide +kernel
theorem dX8_setRotation_84 : decode cX8_setRotation 84 = .ok (.iload 4, 2) := by decide +kernel
theorem dX8_setRotation_86 : decode cX8_setRotation 86 = .ok (.iconst 0, 1) := by decide +kernel
theorem dX8_setRotation_87 : decode cX8_setRotation 87 = .ok (.iastore, 1) := by decide +kernel
theorem dX8_setRotation_88 : decode cX8_setRotation 88 = .ok (.iinc 4 1, 3) := by decide +kernel
theorem dX8_setRotation_91 : decode cX8_setRotation 91 = .ok (.goto (-18), 3) := by decide +kernel
theorem dX8_setRotation_94 : decode cX8_setRotation 94 = .ok (.return_, 1) := by decide +kernel
theorem dX8_readShifts_0 : decode cX8_readShifts 0 = .ok (.iload_n 2, 1) := by decide +kernel
theorem dX8_readShifts_1 : decode cX8_readShifts 1 = .ok (.ifCond .eq 13, 3) := by decide +kernel
theorem dX8_readShifts_4 : decode cX8_readShifts 4 = .ok (.iload_n 2, 1) := by decide +kernel
theorem dX8_readShifts_5 : decode cX8_readShifts 5 = .ok (.iconst 1, 1) := by decide +kernel
theorem dX8_readShifts_6 : decode cX8_readShifts 6 = .ok (.if_icmp .eq 8, 3) := by decide +kernel
theorem dX8_readShifts_9 : decode cX8_readShifts 9 = .ok (.iload_n 2, 1) := by decide +kernel
theorem dX8_readShifts_10 : decode cX8_readShifts 10 = .ok (.iconst 2, 1) := by decide +kernel
theorem dX8_readShifts_11 : decode cX8_readShifts 11 = .ok (.if_icmp .ne 7, 3) := by decide +kernel
theorem dX8_readShifts_14 : decode cX8_readShifts 14 = .ok (.iconst 1, 1) := by decide +kernel
theorem dX8_readShifts_15 : decode cX8_readShifts 15 = .ok (.goto 4, 3) := by decide +kernel
theorem dX8_readShifts_18 : decode cX8_readShifts 18 = .ok (.iconst 0, 1) := by decide +kernel
theorem dX8_readShifts_19 : decode cX8_readShifts 19 = .ok (.istore_n 3, 1) := by decide +kernel
theorem dX8_readShifts_20 : decode cX8_readShifts 20 = .ok (.iconst 0, 1) := by decide +kernel
theorem dX8_readShifts_21 : decode cX8_readShifts 21 = .ok (.istore 4, 2) := by decide +kernel
theorem dX8_readShifts_23 : decode cX8_readShifts 23 = .ok (.iload 4, 2) := by decide +kernel
theorem dX8_readShifts_25 : decode cX8_readShifts 25 = .ok (.iconst 4, 1) := by decide +kernel
theorem dX8_readShifts_26 : decode cX8_readShifts 26 = .ok (.if_icmp .ge 75, 3) := by decide +kernel
theorem dX8_readShifts_29 : decode cX8_readShifts 29 = .ok (.aload_n 0, 1) := by decide +kernel
theorem dX8_readShifts_30 : decode cX8_readShifts 30 = .ok (.getfield 17, 3) := by decide +kernel
theorem dX8_readShifts_33 : decode cX8_readShifts 33 = .ok (.aload_n 0, 1) := by decide +kernel
theorem dX8_readShifts_34 : decode cX8_readShifts 34 = .ok (.getfield 25, 3) := by decide +kernel
theorem dX8_readShifts_37 : decode cX8_readShifts 37 = .ok (.invokevirtual 70, 3) := by decide +kernel
theorem dX8_readShifts_40 : decode cX8_readShifts 40 = .ok (.istore 5, 2) := by decide +kernel
theorem dX8_readShifts_42 : decode cX8_readShifts 42 = .ok (.iload_n 3, 1) := by decide +kernel
theorem dX8_readShifts_43 : decode cX8_readShifts 43 = .ok (.ifCond .eq 32, 3) := by decide +kernel
theorem dX8_readShifts_46 : decode cX8_readShifts 46 = .ok (.iload 5, 2) := by decide +kernel
theorem dX8_readShifts_48 : decode cX8_readShifts 48 = .ok (.iload_n 1, 1) := by decide +kernel
theorem dX8_readShifts_49 : decode cX8_readShifts 49 = .ok (.invokestatic 115, 3) := by decide +kernel
theorem dX8_readShifts_52 : decode cX8_readShifts 52 = .ok (.ifCond .eq 23, 3) := by decide +kernel
theorem dX8_readShifts_55 : decode cX8_readShifts 55 = .ok (.iconst 0, 1) := by decide +kernel
theorem dX8_readShifts_56 : decode cX8_readShifts 56 = .ok (.istore_n 3, 1) := by decide +kernel
theorem dX8_readShifts_57 : decode cX8_readShifts 57 = .ok (.aload_n 0, 1) := by decide +kernel
theorem dX8_readShifts_58 : decode cX8_readShifts 58 = .ok (.iload_n 2, 1) := by decide +kernel
theorem dX8_readShifts_59 : decode cX8_readShifts 59 = .ok (.iload 5, 2) := by decide +kernel
theorem dX8_readShifts_61 : decode cX8_readShifts 61 = .ok (.bipush 48, 2) := by decide +kernel
theorem dX8_readShifts_63 : decode cX8_readShifts 63 = .ok (.isub, 1) := by decide +kernel
theorem dX8_readShifts_64 : decode cX8_readShifts 64 = .ok (.iload_n 1, 1) := by decide +kernel
theorem dX8_readShifts_65 : decode cX8_readShifts 65 = .ok (.invokestatic 119, 3) := by decide +kernel
theorem dX8_readShifts_68 : decode cX8_readShifts 68 = .ok (.imul, 1) := by decide +kernel
theorem dX8_readShifts_69 : decode cX8_readShifts 69 = .ok (.invokevirtual 122, 3) := by decide +kernel
theorem dX8_readShifts_72 : decode cX8_readShifts 72 = .ok (.goto 13, 3) := by decide +kernel
theorem dX8_readShifts_75 : decode cX8_readShifts 75 = .ok (.aload_n 0, 1) := by decide +kernel
theorem dX8_readShifts_76 : decode cX8_readShifts 76 = .ok (.iload 5, 2) := by decide +kernel
theorem dX8_readShifts_78 : decode cX8_readShifts 78 = .ok (.invokevirtual 125, 3) := by decide +kernel
theorem dX8_readShifts_81 : decode cX8_readShifts 81 = .ok (.ifCond .ne 4, 3) := by decide +kernel
theorem dX8_readShifts_84 : decode cX8_readShifts 84 = .ok (.return_, 1) := by decide +kernel
theorem dX8_readShifts_85 : decode cX8_readShifts 85 = .ok (.aload_n 0, 1) := by decide +kernel
theorem dX8_readShifts_86 : decode cX8_readShifts 86 = .ok (.dup, 1) := by decide +kernel
theorem dX8_readShifts_87 : decode cX8_readShifts 87 = .ok (.getfield 25, 3) := by decide +kernel
theorem dX8_readShifts_90 : decode cX8_readShifts 90 = .ok (.iconst 1, 1) := by decide +kernel
theorem dX8_readShifts_91 : decode cX8_readShifts 91 = .ok (.iadd, 1) := by decide +kernel
theorem dX8_readShifts_92 : decode cX8_readShifts 92 = .ok (.putfield 25, 3) := by decide +kernel
theorem dX8_readShifts_95 : decode cX8_readShifts 95 = .ok (.iinc 4 1, 3) := by decide +kernel
theorem dX8_readShifts_98 : decode cX8_readShifts 98 = .ok (.goto (-75), 3) := by decide +kernel
theorem dX8_readShifts_101 : decode cX8_readShifts 101 = .ok (.return_, 1) := by decide +kernel
theorem dX8_isScrew_0 : decode cX8_isScrew 0 = .ok (.iload_n 1, 1) := by decide +kernel
theorem dX8_isScrew_1 : decode cX8_isScrew 1 = .ok (.invokestatic 119, 3) := by decide +kernel
theorem dX8_isScrew_4 : decode cX8_isScrew 4 = .ok (.ifCond .le 21, 3) := by decide +kernel
theorem dX8_isScrew_7 : decode cX8_isScrew 7 = .ok (.iload_n 0, 1) := by decide +kernel
theorem dX8_isScrew_8 : decode cX8_isScrew 8 = .ok (.bipush 49, 2) := by decide +kernel
theorem dX8_isScrew_10 : decode cX8_isScrew 10 = .ok (.if_icmp .lt 15, 3) := by decide +kernel
theorem dX8_isScrew_13 : decode cX8_isScrew 13 = .ok (.iload_n 0, 1) := by decide +kernel
theorem dX8_isScrew_14 : decode cX8_isScrew 14 = .ok (.bipush 48, 2) := by decide +kernel
theorem dX8_isScrew_16 : decode cX8_isScrew 16 = .ok (.iload_n 1, 1) := by decide +kernel
theorem dX8_isScrew_17 : decode cX8_isScrew 17 = .ok (.iadd, 1) := by decide +kernel
theorem dX8_isScrew_18 : decode cX8_isScrew 18 = .ok (.if_icmp .ge 7, 3) := by decide +kernel
theorem dX8_isScrew_21 : decode cX8_isScrew 21 = .ok (.iconst 1, 1) := by decide +kernel
theorem dX8_isScrew_22 : decode cX8_isScrew 22 = .ok (.goto 4, 3) := by decide +kernel
theorem dX8_isScrew_25 : decode cX8_isScrew 25 = .ok (.iconst 0, 1) := by decide +kernel
theorem dX8_isScrew_26 : decode cX8_isScrew 26 = .ok (.ireturn, 1) := by decide +kernel
theorem dX8_screwStep_0 : decode cX8_screwStep 0 = .ok (.iload_n 0, 1) := by decide +kernel
theorem dX8_screwStep_1 : decode cX8_screwStep 1 = .ok (.tableswitch 37 3 6 #[31, 33, 37, 35], 31) := by decide +kernel
theorem dX8_screwStep_32 : decode cX8_screwStep 32 = .ok (.iconst 4, 1) := by decide +kernel
theorem dX8_screwStep_33 : decode cX8_screwStep 33 = .ok (.ireturn, 1) := by decide +kernel
theorem dX8_screwStep_34 : decode cX8_screwStep 34 = .ok (.iconst 3, 1) := by decide +kernel
theorem dX8_screwStep_35 : decode cX8_screwStep 35 = .ok (.ireturn, 1) := by decide +kernel
theorem dX8_screwStep_36 : decode cX8_screwStep 36 = .ok (.iconst 2, 1) := by decide +kernel
theorem dX8_screwStep_37 : decode cX8_screwStep 37 = .ok (.ireturn, 1) := by decide +kernel
theorem dX8_screwStep_38 : decode cX8_screwStep 38 = .ok (.iconst 0, 1) := by decide +kernel
theorem dX8_screwStep_39 : decode cX8_screwStep 39 = .ok (.ireturn, 1) := by decide +kernel
theorem dX8_shiftByLetter_0 : decode cX8_shiftByLetter 0 = .ok (.iload_n 1, 1) := by decide +kernel
theorem dX8_shiftByLetter_1 : decode cX8_shiftByLetter 1 = .ok (.tableswitch 177 97 119 #[107, 116, 125, 169, 177, 177, 177, 177, 177, 177, 177, 177, 177, 134, 177, 177, 177, 177, 177, 177, 145, 153, 161], 107) := by decide +kernel
theorem dX8_shiftByLetter_108 : decode cX8_shiftByLetter 108 = .ok (.aload_n 0, 1) := by decide +kernel
theorem dX8_shiftByLetter_109 : decode cX8_shiftByLetter 109 = .ok (.bipush 6, 2) := by decide +kernel
theorem dX8_shiftByLetter_111 : decode cX8_shiftByLetter 111 = .ok (.iconst 0, 1) := by decide +kernel
theorem dX8_shiftByLetter_112 : decode cX8_shiftByLetter 112 = .ok (.iconst 0, 1) := by decide +kernel
theorem dX8_shiftByLetter_113 : decode cX8_shiftByLetter 113 = .ok (.invokevirtual 78, 3) := by decide +kernel
theorem dX8_shiftByLetter_116 : decode cX8_shiftByLetter 116 = .ok (.ireturn, 1) := by decide +kernel
theorem dX8_shiftByLetter_117 : decode cX8_shiftByLetter 117 = .ok (.aload_n 0, 1) := by decide +kernel
theorem dX8_shiftByLetter_118 : decode cX8_shiftByLetter 118 = .ok (.iconst 0, 1) := by decide +kernel
theorem dX8_shiftByLetter_119 : decode cX8_shiftByLetter 119 = .ok (.bipush 6, 2) := by decide +kernel
theorem dX8_shiftByLetter_121 : decode cX8_shiftByLetter 121 = .ok (.iconst 0, 1) := by decide +kernel
theorem dX8_shiftByLetter_122 : decode cX8_shiftByLetter 122 = .ok (.invokevirtual 78, 3) := by decide +kernel
theorem dX8_shiftByLetter_125 : decode cX8_shiftByLetter 125 = .ok (.ireturn, 1) := by decide +kernel
theorem dX8_shiftByLetter_126 : decode cX8_shiftByLetter 126 = .ok (.aload_n 0, 1) := by decide +kernel
theorem dX8_shiftByLetter_127 : decode cX8_shiftByLetter 127 = .ok (.iconst 0, 1) := by decide +kernel
theorem dX8_shiftByLetter_128 : decode cX8_shiftByLetter 128 = .ok (.iconst 0, 1) := by decide +kernel
theorem dX8_shiftByLetter_129 : decode cX8_shiftByLetter 129 = .ok (.bipush 6, 2) := by decide +kernel
theorem dX8_shiftByLetter_131 : decode cX8_shiftByLetter 131 = .ok (.invokevirtual 78, 3) := by decide +kernel
theorem dX8_shiftByLetter_134 : decode cX8_shiftByLetter 134 = .ok (.ireturn, 1) := by decide +kernel
theorem dX8_shiftByLetter_135 : decode cX8_shiftByLetter 135 = .ok (.aload_n 0, 1) := by decide +kernel
theorem dX8_shiftByLetter_136 : decode cX8_shiftByLetter 136 = .ok (.bipush 6, 2) := by decide +kernel
theorem dX8_shiftByLetter_138 : decode cX8_shiftByLetter 138 = .ok (.bipush 6, 2) := by decide +kernel
theorem dX8_shiftByLetter_140 : decode cX8_shiftByLetter 140 = .ok (.bipush 6, 2) := by decide +kernel
theorem dX8_shiftByLetter_142 : decode cX8_shiftByLetter 142 = .ok (.invokevirtual 78, 3) := by decide +kernel
theorem dX8_shiftByLetter_145 : decode cX8_shiftByLetter 145 = .ok (.ireturn, 1) := by decide +kernel
theorem dX8_shiftByLetter_146 : decode cX8_shiftByLetter 146 = .ok (.aload_n 0, 1) := by decide +kernel
theorem dX8_shiftByLetter_147 : decode cX8_shiftByLetter 147 = .ok (.iconst 3, 1) := by decide +kernel
theorem dX8_shiftByLetter_148 : decode cX8_shiftByLetter 148 = .ok (.iconst 0, 1) := by decide +kernel
theorem dX8_shiftByLetter_149 : decode cX8_shiftByLetter 149 = .ok (.iconst 0, 1) := by decide +kernel
theorem dX8_shiftByLetter_150 : decode cX8_shiftByLetter 150 = .ok (.invokevirtual 78, 3) := by decide +kernel
theorem dX8_shiftByLetter_153 : decode cX8_shiftByLetter 153 = .ok (.ireturn, 1) := by decide +kernel
theorem dX8_shiftByLetter_154 : decode cX8_shiftByLetter 154 = .ok (.aload_n 0, 1) := by decide +kernel
theorem dX8_shiftByLetter_155 : decode cX8_shiftByLetter 155 = .ok (.iconst 0, 1) := by decide +kernel
theorem dX8_shiftByLetter_156 : decode cX8_shiftByLetter 156 = .ok (.iconst 3, 1) := by decide +kernel
theorem dX8_shiftByLetter_157 : decode cX8_shiftByLetter 157 = .ok (.iconst 0, 1) := by decide +kernel
theorem dX8_shiftByLetter_158 : decode cX8_shiftByLetter 158 = .ok (.invokevirtual 78, 3) := by decide +kernel
theorem dX8_shiftByLetter_161 : decode cX8_shiftByLetter 161 = .ok (.ireturn, 1) := by decide +kernel
theorem dX8_shiftByLetter_162 : decode cX8_shiftByLetter 162 = .ok (.aload_n 0, 1) := by decide +kernel
theorem dX8_shiftByLetter_163 : decode cX8_shiftByLetter 163 = .ok (.iconst 0, 1) := by decide +kernel
theorem dX8_shiftByLetter_164 : decode cX8_shiftByLetter 164 = .ok (.iconst 0, 1) := by decide +kernel
theorem dX8_shiftByLetter_165 : decode cX8_shiftByLetter 165 = .ok (.iconst 3, 1) := by decide +kernel
theorem dX8_shiftByLetter_166 : decode cX8_shiftByLetter 166 = .ok (.invokevirtual 78, 3) := by decide +kernel
theorem dX8_shiftByLetter_169 : decode cX8_shiftByLetter 169 = .ok (.ireturn, 1) := by decide +kernel
theorem dX8_shiftByLetter_170 : decode cX8_shiftByLetter 170 = .ok (.aload_n 0, 1) := by decide +kernel
theorem dX8_shiftByLetter_171 : decode cX8_shiftByLetter 171 = .ok (.iconst 3, 1) := by decide +kernel
theorem dX8_shiftByLetter_172 : decode cX8_shiftByLetter 172 = .ok (.iconst 3, 1) := by decide +kernel
theorem dX8_shiftByLetter_173 : decode cX8_shiftByLetter 173 = .ok (.iconst 3, 1) := by decide +kernel
theorem dX8_shiftByLetter_174 : decode cX8_shiftByLetter 174 = .ok (.invokevirtual 78, 3) := by decide +kernel
theorem dX8_shiftByLetter_177 : decode cX8_shiftByLetter 177 = .ok (.ireturn, 1) := by decide +kernel
theorem dX8_shiftByLetter_178 : decode cX8_shiftByLetter 178 = .ok (.iconst 0, 1) := by decide +kernel
theorem dX8_shiftByLetter_179 : decode cX8_shiftByLetter 179 = .ok (.ireturn, 1) := by decide +kernel
theorem dX8_shift_0 : decode cX8_shift 0 = .ok (.aload_n 0, 1) := by decide +kernel
theorem dX8_shift_1 : decode cX8_shift 1 = .ok (.iconst 0, 1) := by decide +kernel
theorem dX8_shift_2 : decode cX8_shift 2 = .ok (.iload_n 1, 1) := by decide +kernel
theorem dX8_shift_3 : decode cX8_shift 3 = .ok (.invokevirtual 122, 3) := by decide +kernel
theorem dX8_shift_6 : decode cX8_shift 6 = .ok (.aload_n 0, 1) := by decide +kernel
theorem dX8_shift_7 : decode cX8_shift 7 = .ok (.iconst 1, 1) := by decide +kernel
theorem dX8_shift_8 : decode cX8_shift 8 = .ok (.iload_n 2, 1) := by decide +kernel
theorem dX8_shift_9 : decode cX8_shift 9 = .ok (.invokevirtual 122, 3) := by decide +kernel
theorem dX8_shift_12 : decode cX8_shift 12 = .ok (.aload_n 0, 1) := by decide +kernel
theorem dX8_shift_13 : decode cX8_shift 13 = .ok (.iconst 2, 1) := by decide +kernel
theorem dX8_shift_14 : decode cX8_shift 14 = .ok (.iload_n 3, 1) := by decide +kernel
theorem dX8_shift_15 : decode cX8_shift 15 = .ok (.invokevirtual 122, 3) := by decide +kernel
theorem dX8_shift_18 : decode cX8_shift 18 = .ok (.iconst 1, 1) := by decide +kernel
theorem dX8_shift_19 : decode cX8_shift 19 = .ok (.ireturn, 1) := by decide +kernel
theorem dX8_shiftAlong_0 : decode cX8_shiftAlong 0 = .ok (.iload_n 1, 1) := by decide +kernel
theorem dX8_shiftAlong_1 : decode cX8_shiftAlong 1 = .ok (.ifCond .lt 31, 3) := by decide +kernel
theorem dX8_shiftAlong_4 : decode cX8_shiftAlong 4 = .ok (.iload_n 1, 1) := by decide +kernel
theorem dX8_shiftAlong_5 : decode cX8_shiftAlong 5 = .ok (.iconst 2, 1) := by decide +kernel
theorem dX8_shiftAlong_6 : decode cX8_shiftAlong 6 = .ok (.if_icmp .gt 26, 3) := by decide +kernel
theorem dX8_shiftAlong_9 : decode cX8_shiftAlong 9 = .ok (.aload_n 0, 1) := by decide +kernel
theorem dX8_shiftAlong_10 : decode cX8_shiftAlong 10 = .ok (.getfield 11, 3) := by decide +kernel
theorem dX8_shiftAlong_13 : decode cX8_shiftAlong 13 = .ok (.bipush 9, 2) := by decide +kernel
theorem dX8_shiftAlong_15 : decode cX8_shiftAlong 15 = .ok (.iload_n 1, 1) := by decide +kernel
theorem dX8_shiftAlong_16 : decode cX8_shiftAlong 16 = .ok (.iadd, 1) := by decide +kernel
theorem dX8_shiftAlong_17 : decode cX8_shiftAlong 17 = .ok (.aload_n 0, 1) := by decide +kernel
theorem dX8_shiftAlong_18 : decode cX8_shiftAlong 18 = .ok (.getfield 11, 3) := by decide +kernel
theorem dX8_shiftAlong_21 : decode cX8_shiftAlong 21 = .ok (.bipush 9, 2) := by decide +kernel
theorem dX8_shiftAlong_23 : decode cX8_shiftAlong 23 = .ok (.iload_n 1, 1) := by decide +kernel
theorem dX8_shiftAlong_24 : decode cX8_shiftAlong 24 = .ok (.iadd, 1) := by decide +kernel
theorem dX8_shiftAlong_25 : decode cX8_shiftAlong 25 = .ok (.iaload, 1) := by decide +kernel
theorem dX8_shiftAlong_26 : decode cX8_shiftAlong 26 = .ok (.iload_n 2, 1) := by decide +kernel
theorem dX8_shiftAlong_27 : decode cX8_shiftAlong 27 = .ok (.iadd, 1) := by decide +kernel
theorem dX8_shiftAlong_28 : decode cX8_shiftAlong 28 = .ok (.bipush 12, 2) := by decide +kernel
theorem dX8_shiftAlong_30 : decode cX8_shiftAlong 30 = .ok (.irem, 1) := by decide +kernel
theorem dX8_shiftAlong_31 : decode cX8_shiftAlong 31 = .ok (.iastore, 1) := by decide +kernel
theorem dX8_shiftAlong_32 : decode cX8_shiftAlong 32 = .ok (.return_, 1) := by decide +kernel
theorem dX8_remember_0 : decode cX8_remember 0 = .ok (.iload_n 1, 1) := by decide +kernel
theorem dX8_remember_1 : decode cX8_remember 1 = .ok (.iconst 1, 1) := by decide +kernel
theorem dX8_remember_2 : decode cX8_remember 2 = .ok (.if_icmp .ne 4, 3) := by decide +kernel
theorem dX8_remember_5 : decode cX8_remember 5 = .ok (.return_, 1) := by decide +kernel
theorem dX8_remember_6 : decode cX8_remember 6 = .ok (.aload_n 0, 1) := by decide +kernel
theorem dX8_remember_7 : decode cX8_remember 7 = .ok (.getfield 29, 3) := by decide +kernel
theorem dX8_remember_10 : decode cX8_remember 10 = .ok (.ifCond .ne 8, 3) := by decide +kernel
theorem dX8_remember_13 : decode cX8_remember 13 = .ok (.aload_n 0, 1) := by decide +kernel
theorem dX8_remember_14 : decode cX8_remember 14 = .ok (.iload_n 1, 1) := by decide +kernel
theorem dX8_remember_15 : decode cX8_remember 15 = .ok (.putfield 32, 3) := by decide +kernel
theorem dX8_remember_18 : decode cX8_remember 18 = .ok (.aload_n 0, 1) := by decide +kernel
theorem dX8_remember_19 : decode cX8_remember 19 = .ok (.dup, 1) := by decide +kernel
theorem dX8_remember_20 : decode cX8_remember 20 = .ok (.getfield 29, 3) := by decide +kernel
theorem dX8_remember_23 : decode cX8_remember 23 = .ok (.iconst 1, 1) := by decide +kernel
theorem dX8_remember_24 : decode cX8_remember 24 = .ok (.iadd, 1) := by decide +kernel
theorem dX8_remember_25 : decode cX8_remember 25 = .ok (.putfield 29, 3) := by decide +kernel
theorem dX8_remember_28 : decode cX8_remember 28 = .ok (.iload_n 2, 1) := by decide +kernel
theorem dX8_remember_29 : decode cX8_remember 29 = .ok (.iconst 2, 1) := by decide +kernel
theorem dX8_remember_30 : decode cX8_remember 30 = .ok (.if_icmp .gt 8, 3) := by decide +kernel
theorem dX8_remember_33 : decode cX8_remember 33 = .ok (.aload_n 0, 1) := by decide +kernel
theorem dX8_remember_34 : decode cX8_remember 34 = .ok (.iload_n 2, 1) := by decide +kernel
theorem dX8_remember_35 : decode cX8_remember 35 = .ok (.putfield 35, 3) := by decide +kernel
theorem dX8_remember_38 : decode cX8_remember 38 = .ok (.return_, 1) := by decide +kernel
theorem dX9_init_0 : decode cX9_init 0 = .ok (.aload_n 0, 1) := by decide +kernel
theorem dX9_init_1 : decode cX9_init 1 = .ok (.invokespecial 3, 3) := by decide +kernel
theorem dX9_init_4 : decode cX9_init 4 = .ok (.aload_n 0, 1) := by decide +kernel
theorem dX9_init_5 : decode cX9_init 5 = .ok (.sipush 8000, 3) := by decide +kernel
theorem dX9_init_8 : decode cX9_init 8 = .ok (.newarray .byte, 2) := by decide +kernel
theorem dX9_init_10 : decode cX9_init 10 = .ok (.putfield 9, 3) := by decide +kernel
theorem dX9_init_13 : decode cX9_init 13 = .ok (.return_, 1) := by decide +kernel
theorem dX9_append_0 : decode cX9_append 0 = .ok (.bipush 24, 2) := by decide +kernel
theorem dX9_append_2 : decode cX9_append 2 = .ok (.istore_n 2, 1) := by decide +kernel
theorem dX9_append_3 : decode cX9_append 3 = .ok (.iload_n 2, 1) := by decide +kernel
theorem dX9_append_4 : decode cX9_append 4 = .ok (.ifCond .lt 42, 3) := by decide +kernel
theorem dX9_append_7 : decode cX9_append 7 = .ok (.aload_n 0, 1) := by decide +kernel
theorem dX9_append_8 : decode cX9_append 8 = .ok (.getfield 15, 3) := by decide +kernel
theorem dX9_append_11 : decode cX9_append 11 = .ok (.sipush 8000, 3) := by decide +kernel
theorem dX9_append_14 : decode cX9_append 14 = .ok (.if_icmp .ge 32, 3) := by decide +kernel
theorem dX9_append_17 : decode cX9_append 17 = .ok (.aload_n 0, 1) := by decide +kernel
theorem dX9_append_18 : decode cX9_append 18 = .ok (.getfield 9, 3) := by decide +kernel
theorem dX9_append_21 : decode cX9_append 21 = .ok (.aload_n 0, 1) := by decide +kernel
theorem dX9_append_22 : decode cX9_append 22 = .ok (.getfield 15, 3) := by decide +kernel
theorem dX9_append_25 : decode cX9_append 25 = .ok (.iload_n 1, 1) := by decide +kernel
theorem dX9_append_26 : decode cX9_append 26 = .ok (.iload_n 2, 1) := by decide +kernel
theorem dX9_append_27 : decode cX9_append 27 = .ok (.ishr, 1) := by decide +kernel
theorem dX9_append_28 : decode cX9_append 28 = .ok (.i2b, 1) := by decide +kernel
theorem dX9_append_29 : decode cX9_append 29 = .ok (.bastore, 1) := by decide +kernel
theorem dX9_append_30 : decode cX9_append 30 = .ok (.aload_n 0, 1) := by decide +kernel
theorem dX9_append_31 : decode cX9_append 31 = .ok (.dup, 1) := by decide +kernel
theorem dX9_append_32 : decode cX9_append 32 = .ok (.getfield 15, 3) := by decide +kernel
theorem dX9_append_35 : decode cX9_append 35 = .ok (.iconst 1, 1) := by decide +kernel
theorem dX9_append_36 : decode cX9_append 36 = .ok (.iadd, 1) := by decide +kernel
theorem dX9_append_37 : decode cX9_append 37 = .ok (.putfield 15, 3) := by decide +kernel
theorem dX9_append_40 : decode cX9_append 40 = .ok (.iinc 2 (-8), 3) := by decide +kernel
theorem dX9_append_43 : decode cX9_append 43 = .ok (.goto (-40), 3) := by decide +kernel
theorem dX9_append_46 : decode cX9_append 46 = .ok (.return_, 1) := by decide +kernel
theorem dX9_byteAt_0 : decode cX9_byteAt 0 = .ok (.iload_n 1, 1) := by decide +kernel
theorem dX9_byteAt_1 : decode cX9_byteAt 1 = .ok (.ifCond .lt 11, 3) := by decide +kernel
theorem dX9_byteAt_4 : decode cX9_byteAt 4 = .ok (.iload_n 1, 1) := by decide +kernel
theorem dX9_byteAt_5 : decode cX9_byteAt 5 = .ok (.aload_n 0, 1) := by decide +kernel
theorem dX9_byteAt_6 : decode cX9_byteAt 6 = .ok (.getfield 15, 3) := by decide +kernel
theorem dX9_byteAt_9 : decode cX9_byteAt 9 = .ok (.if_icmp .lt 5, 3) := by decide +kernel
theorem dX9_byteAt_12 : decode cX9_byteAt 12 = .ok (.iconst (-1), 1) := by decide +kernel
theorem dX9_byteAt_13 : decode cX9_byteAt 13 = .ok (.ireturn, 1) := by decide +kernel
theorem dX9_byteAt_14 : decode cX9_byteAt 14 = .ok (.aload_n 0, 1) := by decide +kernel
theorem dX9_byteAt_15 : decode cX9_byteAt 15 = .ok (.getfield 9, 3) := by decide +kernel
theorem dX9_byteAt_18 : decode cX9_byteAt 18 = .ok (.iload_n 1, 1) := by decide +kernel
theorem dX9_byteAt_19 : decode cX9_byteAt 19 = .ok (.baload, 1) := by decide +kernel
theorem dX9_byteAt_20 : decode cX9_byteAt 20 = .ok (.sipush 255, 3) := by decide +kernel
theorem dX9_byteAt_23 : decode cX9_byteAt 23 = .ok (.iand, 1) := by decide +kernel
theorem dX9_byteAt_24 : decode cX9_byteAt 24 = .ok (.ireturn, 1) := by decide +kernel
theorem dX10_init_0 : decode cX10_init 0 = .ok (.aload_n 0, 1) := by decide +kernel
theorem dX10_init_1 : decode cX10_init 1 = .ok (.invokespecial 3, 3) := by decide +kernel
theorem dX10_init_4 : decode cX10_init 4 = .ok (.aload_n 0, 1) := by decide +kernel
theorem dX10_init_5 : decode cX10_init 5 = .ok (.sipush 3000, 3) := by decide +kernel
theorem dX10_init_8 : decode cX10_init 8 = .ok (.newarray .int, 2) := by decide +kernel
theorem dX10_init_10 : decode cX10_init 10 = .ok (.putfield 9, 3) := by decide +kernel
theorem dX10_init_13 : decode cX10_init 13 = .ok (.return_, 1) := by decide +kernel
theorem dX10_findAbove_0 : decode cX10_findAbove 0 = .ok (.aload_n 0, 1) := by decide +kernel
theorem dX10_findAbove_1 : decode cX10_findAbove 1 = .ok (.iconst 0, 1) := by decide +kernel
theorem dX10_findAbove_2 : decode cX10_findAbove 2 = .ok (.putfield 15, 3) := by decide +kernel
theorem dX10_findAbove_5 : decode cX10_findAbove 5 = .ok (.iconst 0, 1) := by decide +kernel
theorem dX10_findAbove_6 : decode cX10_findAbove 6 = .ok (.istore 4, 2) := by decide +kernel
theorem dX10_findAbove_8 : decode cX10_findAbove 8 = .ok (.iload 4, 2) := by decide +kernel
theorem dX10_findAbove_10 : decode cX10_findAbove 10 = .ok (.aload_n 2, 1) := by decide +kernel
theorem dX10_findAbove_11 : decode cX10_findAbove 11 = .ok (.getfield 19, 3) := by decide +kernel
theorem dX10_findAbove_14 : decode cX10_findAbove 14 = .ok (.if_icmp .ge 87, 3) := by decide +kernel
theorem dX10_findAbove_17 : decode cX10_findAbove 17 = .ok (.aload_n 2, 1) := by decide +kernel
theorem dX10_findAbove_18 : decode cX10_findAbove 18 = .ok (.getfield 22, 3) := by decide +kernel
theorem dX10_findAbove_21 : decode cX10_findAbove 21 = .ok (.iload 4, 2) := by decide +kernel
theorem dX10_findAbove_23 : decode cX10_findAbove 23 = .ok (.iaload, 1) := by decide +kernel
theorem dX10_findAbove_24 : decode cX10_findAbove 24 = .ok (.istore 5, 2) := by decide +kernel
theorem dX10_findAbove_26 : decode cX10_findAbove 26 = .ok (.aload_n 2, 1) := by decide +kernel
theorem dX10_findAbove_27 : decode cX10_findAbove 27 = .ok (.getfield 25, 3) := by decide +kernel
theorem dX10_findAbove_30 : decode cX10_findAbove 30 = .ok (.iload 4, 2) := by decide +kernel
theorem dX10_findAbove_32 : decode cX10_findAbove 32 = .ok (.iaload, 1) := by decide +kernel
theorem dX10_findAbove_33 : decode cX10_findAbove 33 = .ok (.i2l, 1) := by decide +kernel
theorem dX10_findAbove_34 : decode cX10_findAbove 34 = .ok (.iload_n 1, 1) := by decide +kernel
theorem dX10_findAbove_35 : decode cX10_findAbove 35 = .ok (.i2l, 1) := by decide +kernel
theorem dX10_findAbove_36 : decode cX10_findAbove 36 = .ok (.aload_n 2, 1) := by decide +kernel
theorem dX10_findAbove_37 : decode cX10_findAbove 37 = .ok (.getfield 28, 3) := by decide +kernel
theorem dX10_findAbove_40 : decode cX10_findAbove 40 = .ok (.iload 4, 2) := by decide +kernel
theorem dX10_findAbove_42 : decode cX10_findAbove 42 = .ok (.iaload, 1) := by decide +kernel
theorem dX10_findAbove_43 : decode cX10_findAbove 43 = .ok (.i2l, 1) := by decide +kernel
theorem dX10_findAbove_44 : decode cX10_findAbove 44 = .ok (.lmul, 1) := by decide +kernel
theorem dX10_findAbove_45 : decode cX10_findAbove 45 = .ok (.lcmp, 1) := by decide +kernel
theorem dX10_findAbove_46 : decode cX10_findAbove 46 = .ok (.ifCond .le 49, 3) := by decide +kernel
theorem dX10_findAbove_49 : decode cX10_findAbove 49 = .ok (.aload_n 3, 1) := by decide +kernel
theorem dX10_findAbove_50 : decode cX10_findAbove 50 = .ok (.iload 5, 2) := by decide +kernel
theorem dX10_findAbove_52 : decode cX10_findAbove 52 = .ok (.iconst 0, 1) := by decide +kernel
theorem dX10_findAbove_53 : decode cX10_findAbove 53 = .ok (.invokestatic 31, 3) := by decide +kernel
theorem dX10_findAbove_56 : decode cX10_findAbove 56 = .ok (.iload 5, 2) := by decide +kernel
theorem dX10_findAbove_58 : decode cX10_findAbove 58 = .ok (.iconst 1, 1) := by decide +kernel
theorem dX10_findAbove_59 : decode cX10_findAbove 59 = .ok (.invokestatic 31, 3) := by decide +kernel
theorem dX10_findAbove_62 : decode cX10_findAbove 62 = .ok (.iload 5, 2) := by decide +kernel
theorem dX10_findAbove_64 : decode cX10_findAbove 64 = .ok (.iconst 2, 1) := by decide +kernel
theorem dX10_findAbove_65 : decode cX10_findAbove 65 = .ok (.invokestatic 31, 3) := by decide +kernel
theorem dX10_findAbove_68 : decode cX10_findAbove 68 = .ok (.invokevirtual 37, 3) := by decide +kernel
theorem dX10_findAbove_71 : decode cX10_findAbove 71 = .ok (.ifCond .eq 24, 3) := by decide +kernel
theorem dX10_findAbove_74 : decode cX10_findAbove 74 = .ok (.aload_n 0, 1) := by decide +kernel
theorem dX10_findAbove_75 : decode cX10_findAbove 75 = .ok (.getfield 9, 3) := by decide +kernel
theorem dX10_findAbove_78 : decode cX10_findAbove 78 = .ok (.aload_n 0, 1) := by decide +kernel
theorem dX10_findAbove_79 : decode cX10_findAbove 79 = .ok (.getfield 15, 3) := by decide +kernel
theorem dX10_findAbove_82 : decode cX10_findAbove 82 = .ok (.iload 4, 2) := by decide +kernel
theorem dX10_findAbove_84 : decode cX10_findAbove 84 = .ok (.iastore, 1) := by decide +kernel
theorem dX10_findAbove_85 : decode cX10_findAbove 85 = .ok (.aload_n 0, 1) := by decide +kernel
theorem dX10_findAbove_86 : decode cX10_findAbove 86 = .ok (.dup, 1) := by decide +kernel
theorem dX10_findAbove_87 : decode cX10_findAbove 87 = .ok (.getfield 15, 3) := by decide +kernel
theorem dX10_findAbove_90 : decode cX10_findAbove 90 = .ok (.iconst 1, 1) := by decide +kernel
theorem dX10_findAbove_91 : decode cX10_findAbove 91 = .ok (.iadd, 1) := by decide +kernel
theorem dX10_findAbove_92 : decode cX10_findAbove 92 = .ok (.putfield 15, 3) := by decide +kernel
theorem dX10_findAbove_95 : decode cX10_findAbove 95 = .ok (.iinc 4 1, 3) := by decide +kernel
theorem dX10_findAbove_98 : decode cX10_findAbove 98 = .ok (.goto (-90), 3) := by decide +kernel
theorem dX10_findAbove_101 : decode cX10_findAbove 101 = .ok (.return_, 1) := by decide +kernel
theorem dX10_numberOf_0 : decode cX10_numberOf 0 = .ok (.iload_n 1, 1) := by decide +kernel
theorem dX10_numberOf_1 : decode cX10_numberOf 1 = .ok (.ifCond .lt 20, 3) := by decide +kernel
theorem dX10_numberOf_4 : decode cX10_numberOf 4 = .ok (.iload_n 1, 1) := by decide +kernel
theorem dX10_numberOf_5 : decode cX10_numberOf 5 = .ok (.aload_n 0, 1) := by decide +kernel
theorem dX10_numberOf_6 : decode cX10_numberOf 6 = .ok (.getfield 15, 3) := by decide +kernel
theorem dX10_numberOf_9 : decode cX10_numberOf 9 = .ok (.if_icmp .ge 12, 3) := by decide +kernel
theorem dX10_numberOf_12 : decode cX10_numberOf 12 = .ok (.aload_n 0, 1) := by decide +kernel
theorem dX10_numberOf_13 : decode cX10_numberOf 13 = .ok (.getfield 9, 3) := by decide +kernel
theorem dX10_numberOf_16 : decode cX10_numberOf 16 = .ok (.iload_n 1, 1) := by decide +kernel
theorem dX10_numberOf_17 : decode cX10_numberOf 17 = .ok (.iaload, 1) := by decide +kernel
theorem dX10_numberOf_18 : decode cX10_numberOf 18 = .ok (.goto 4, 3) := by decide +kernel
theorem dX10_numberOf_21 : decode cX10_numberOf 21 = .ok (.iconst (-1), 1) := by decide +kernel
theorem dX10_numberOf_22 : decode cX10_numberOf 22 = .ok (.ireturn, 1) := by decide +kernel
theorem dX11_init_0 : decode cX11_init 0 = .ok (.aload_n 0, 1) := by decide +kernel
theorem dX11_init_1 : decode cX11_init 1 = .ok (.invokespecial 1, 3) := by decide +kernel
theorem dX11_init_4 : decode cX11_init 4 = .ok (.aload_n 0, 1) := by decide +kernel
theorem dX11_init_5 : decode cX11_init 5 = .ok (.new 7, 3) := by decide +kernel
theorem dX11_init_8 : decode cX11_init 8 = .ok (.dup, 1) := by decide +kernel
theorem dX11_init_9 : decode cX11_init 9 = .ok (.invokespecial 9, 3) := by decide +kernel
theorem dX11_init_12 : decode cX11_init 12 = .ok (.putfield 10, 3) := by decide +kernel
theorem dX11_init_15 : decode cX11_init 15 = .ok (.aload_n 0, 1) := by decide +kernel
theorem dX11_init_16 : decode cX11_init 16 = .ok (.new 16, 3) := by decide +kernel
theorem dX11_init_19 : decode cX11_init 19 = .ok (.dup, 1) := by decide +kernel
theorem dX11_init_20 : decode cX11_init 20 = .ok (.invokespecial 18, 3) := by decide +kernel
theorem dX11_init_23 : decode cX11_init 23 = .ok (.putfield 19, 3) := by decide +kernel
theorem dX11_init_26 : decode cX11_init 26 = .ok (.aload_n 0, 1) := by decide +kernel
theorem dX11_init_27 : decode cX11_init 27 = .ok (.new 23, 3) := by decide +kernel
theorem dX11_init_30 : decode cX11_init 30 = .ok (.dup, 1) := by decide +kernel
theorem dX11_init_31 : decode cX11_init 31 = .ok (.aload_n 0, 1) := by decide +kernel
theorem dX11_init_32 : decode cX11_init 32 = .ok (.getfield 10, 3) := by decide +kernel
theorem dX11_init_35 : decode cX11_init 35 = .ok (.aload_n 0, 1) := by decide +kernel
theorem dX11_init_36 : decode cX11_init 36 = .ok (.getfield 19, 3) := by decide +kernel
theorem dX11_init_39 : decode cX11_init 39 = .ok (.invokespecial 25, 3) := by decide +kernel
theorem dX11_init_42 : decode cX11_init 42 = .ok (.putfield 28, 3) := by decide +kernel
theorem dX11_init_45 : decode cX11_init 45 = .ok (.aload_n 0, 1) := by decide +kernel
theorem dX11_init_46 : decode cX11_init 46 = .ok (.new 32, 3) := by decide +kernel
theorem dX11_init_49 : decode cX11_init 49 = .ok (.dup, 1) := by decide +kernel
theorem dX11_init_50 : decode cX11_init 50 = .ok (.invokespecial 34, 3) := by decide +kernel
theorem dX11_init_53 : decode cX11_init 53 = .ok (.putfield 35, 3) := by decide +kernel
theorem dX11_init_56 : decode cX11_init 56 = .ok (.aload_n 0, 1) := by decide +kernel
theorem dX11_init_57 : decode cX11_init 57 = .ok (.new 39, 3) := by decide +kernel
theorem dX11_init_60 : decode cX11_init 60 = .ok (.dup, 1) := by decide +kernel
theorem dX11_init_61 : decode cX11_init 61 = .ok (.invokespecial 41, 3) := by decide +kernel
theorem dX11_init_64 : decode cX11_init 64 = .ok (.putfield 42, 3) := by decide +kernel
theorem dX11_init_67 : decode cX11_init 67 = .ok (.aload_n 0, 1) := by decide +kernel
theorem dX11_init_68 : decode cX11_init 68 = .ok (.new 46, 3) := by decide +kernel
theorem dX11_init_71 : decode cX11_init 71 = .ok (.dup, 1) := by decide +kernel
theorem dX11_init_72 : decode cX11_init 72 = .ok (.aload_n 0, 1) := by decide +kernel
theorem dX11_init_73 : decode cX11_init 73 = .ok (.getfield 10, 3) := by decide +kernel
theorem dX11_init_76 : decode cX11_init 76 = .ok (.aload_n 0, 1) := by decide +kernel
theorem dX11_init_77 : decode cX11_init 77 = .ok (.getfield 42, 3) := by decide +kernel
theorem dX11_init_80 : decode cX11_init 80 = .ok (.invokespecial 48, 3) := by decide +kernel
theorem dX11_init_83 : decode cX11_init 83 = .ok (.putfield 51, 3) := by decide +kernel
theorem dX11_init_86 : decode cX11_init 86 = .ok (.aload_n 0, 1) := by decide +kernel
theorem dX11_init_87 : decode cX11_init 87 = .ok (.new 55, 3) := by decide +kernel
theorem dX11_init_90 : decode cX11_init 90 = .ok (.dup, 1) := by decide +kernel
theorem dX11_init_91 : decode cX11_init 91 = .ok (.invokespecial 57, 3) := by decide +kernel
theorem dX11_init_94 : decode cX11_init 94 = .ok (.putfield 58, 3) := by decide +kernel
theorem dX11_init_97 : decode cX11_init 97 = .ok (.aload_n 0, 1) := by decide +kernel
theorem dX11_init_98 : decode cX11_init 98 = .ok (.new 62, 3) := by decide +kernel
theorem dX11_init_101 : decode cX11_init 101 = .ok (.dup, 1) := by decide +kernel
theorem dX11_init_102 : decode cX11_init 102 = .ok (.invokespecial 64, 3) := by decide +kernel
theorem dX11_init_105 : decode cX11_init 105 = .ok (.putfield 65, 3) := by decide +kernel
theorem dX11_init_108 : decode cX11_init 108 = .ok (.return_, 1) := by decide +kernel
theorem dX11_feed_0 : decode cX11_feed 0 = .ok (.aload_n 0, 1) := by decide +kernel
theorem dX11_feed_1 : decode cX11_feed 1 = .ok (.getfield 10, 3) := by decide +kernel
theorem dX11_feed_4 : decode cX11_feed 4 = .ok (.getfield 69, 3) := by decide +kernel
theorem dX11_feed_7 : decode cX11_feed 7 = .ok (.sipush 7980, 3) := by decide +kernel
theorem dX11_feed_10 : decode cX11_feed 10 = .ok (.if_icmp .le 13, 3) := by decide +kernel
theorem dX11_feed_13 : decode cX11_feed 13 = .ok (.new 73, 3) := by decide +kernel
theorem dX11_feed_16 : decode cX11_feed 16 = .ok (.dup, 1) := by decide +kernel
theorem dX11_feed_17 : decode cX11_feed 17 = .ok (.ldc 75, 2) := by decide +kernel
theorem dX11_feed_19 : decode cX11_feed 19 = .ok (.invokespecial 77, 3) := by decide +kernel
theorem dX11_feed_22 : decode cX11_feed 22 = .ok (.athrow, 1) := by decide +kernel
theorem dX11_feed_23 : decode cX11_feed 23 = .ok (.aload_n 0, 1) := by decide +kernel
theorem dX11_feed_24 : decode cX11_feed 24 = .ok (.getfield 10, 3) := by decide +kernel
theorem dX11_feed_27 : decode cX11_feed 27 = .ok (.iload_n 1, 1) := by decide +kernel
theorem dX11_feed_28 : decode cX11_feed 28 = .ok (.invokevirtual 80, 3) := by decide +kernel
theorem dX11_feed_31 : decode cX11_feed 31 = .ok (.aload_n 0, 1) := by decide +kernel
theorem dX11_feed_32 : decode cX11_feed 32 = .ok (.getfield 10, 3) := by decide +kernel
theorem dX11_feed_35 : decode cX11_feed 35 = .ok (.iload_n 2, 1) := by decide +kernel
theorem dX11_feed_36 : decode cX11_feed 36 = .ok (.invokevirtual 80, 3) := by decide +kernel
theorem dX11_feed_39 : decode cX11_feed 39 = .ok (.aload_n 0, 1) := by decide +kernel
theorem dX11_feed_40 : decode cX11_feed 40 = .ok (.getfield 10, 3) := by decide +kernel
theorem dX11_feed_43 : decode cX11_feed 43 = .ok (.iload_n 3, 1) := by decide +kernel
theorem dX11_feed_44 : decode cX11_feed 44 = .ok (.invokevirtual 80, 3) := by decide +kernel
theorem dX11_feed_47 : decode cX11_feed 47 = .ok (.aload_n 0, 1) := by decide +kernel
theorem dX11_feed_48 : decode cX11_feed 48 = .ok (.getfield 10, 3) := by decide +kernel
theorem dX11_feed_51 : decode cX11_feed 51 = .ok (.iload 4, 2) := by decide +kernel
theorem dX11_feed_53 : decode cX11_feed 53 = .ok (.invokevirtual 80, 3) := by decide +kernel
theorem dX11_feed_56 : decode cX11_feed 56 = .ok (.aload_n 0, 1) := by decide +kernel
theorem dX11_feed_57 : decode cX11_feed 57 = .ok (.getfield 10, 3) := by decide +kernel
theorem dX11_feed_60 : decode cX11_feed 60 = .ok (.iload 5, 2) := by decide +kernel
theorem dX11_feed_62 : decode cX11_feed 62 = .ok (.invokevirtual 80, 3) := by decide +kernel
theorem dX11_feed_65 : decode cX11_feed 65 = .ok (.aload_n 0, 1) := by decide +kernel
theorem dX11_feed_66 : decode cX11_feed 66 = .ok (.getfield 10, 3) := by decide +kernel
theorem dX11_feed_69 : decode cX11_feed 69 = .ok (.getfield 69, 3) := by decide +kernel
theorem dX11_feed_72 : decode cX11_feed 72 = .ok (.ireturn, 1) := by decide +kernel
theorem dX11_end_0 : decode cX11_end 0 = .ok (.iload_n 1, 1) := by decide +kernel
theorem dX11_end_1 : decode cX11_end 1 = .ok (.ifCond .lt 14, 3) := by decide +kernel
theorem dX11_end_4 : decode cX11_end 4 = .ok (.iload_n 1, 1) := by decide +kernel
theorem dX11_end_5 : decode cX11_end 5 = .ok (.aload_n 0, 1) := by decide +kernel
theorem dX11_end_6 : decode cX11_end 6 = .ok (.getfield 10, 3) := by decide +kernel
theorem dX11_end_9 : decode cX11_end 9 = .ok (.getfield 69, 3) := by decide +kernel
theorem dX11_end_12 : decode cX11_end 12 = .ok (.if_icmp .le 13, 3) := by decide +kernel
theorem dX11_end_15 : decode cX11_end 15 = .ok (.new 84, 3) := by decide +kernel
theorem dX11_end_18 : decode cX11_end 18 = .ok (.dup, 1) := by decide +kernel
theorem dX11_end_19 : decode cX11_end 19 = .ok (.ldc 86, 2) := by decide +kernel
theorem dX11_end_21 : decode cX11_end 21 = .ok (.invokespecial 88, 3) := by decide +kernel
theorem dX11_end_24 : decode cX11_end 24 = .ok (.athrow, 1) := by decide +kernel
theorem dX11_end_25 : decode cX11_end 25 = .ok (.aload_n 0, 1) := by decide +kernel
theorem dX11_end_26 : decode cX11_end 26 = .ok (.getfield 10, 3) := by decide +kernel
theorem dX11_end_29 : decode cX11_end 29 = .ok (.iload_n 1, 1) := by decide +kernel
theorem dX11_end_30 : decode cX11_end 30 = .ok (.putfield 69, 3) := by decide +kernel
theorem dX11_end_33 : decode cX11_end 33 = .ok (.return_, 1) := by decide +kernel
theorem dX11_symbol_0 : decode cX11_symbol 0 = .ok (.aload_n 0, 1) := by decide +kernel
theorem dX11_symbol_1 : decode cX11_symbol 1 = .ok (.getfield 28, 3) := by decide +kernel
theorem dX11_symbol_4 : decode cX11_symbol 4 = .ok (.invokevirtual 89, 3) := by decide +kernel
theorem dX11_symbol_7 : decode cX11_symbol 7 = .ok (.istore_n 1, 1) := by decide +kernel
theorem dX11_symbol_8 : decode cX11_symbol 8 = .ok (.aload_n 0, 1) := by decide +kernel
theorem dX11_symbol_9 : decode cX11_symbol 9 = .ok (.getfield 10, 3) := by decide +kernel
theorem dX11_symbol_12 : decode cX11_symbol 12 = .ok (.iconst 0, 1) := by decide +kernel
theorem dX11_symbol_13 : decode cX11_symbol 13 = .ok (.putfield 69, 3) := by decide +kernel
theorem dX11_symbol_16 : decode cX11_symbol 16 = .ok (.iload_n 1, 1) := by decide +kernel
theorem dX11_symbol_17 : decode cX11_symbol 17 = .ok (.ifCond .ne 13, 3) := by decide +kernel
theorem dX11_symbol_20 : decode cX11_symbol 20 = .ok (.iconst (-1), 1) := by decide +kernel
theorem dX11_symbol_21 : decode cX11_symbol 21 = .ok (.aload_n 0, 1) := by decide +kernel
theorem dX11_symbol_22 : decode cX11_symbol 22 = .ok (.getfield 28, 3) := by decide +kernel
theorem dX11_symbol_25 : decode cX11_symbol 25 = .ok (.getfield 93, 3) := by decide +kernel
theorem dX11_symbol_28 : decode cX11_symbol 28 = .ok (.isub, 1) := by decide +kernel
theorem dX11_symbol_29 : decode cX11_symbol 29 = .ok (.ireturn, 1) := by decide +kernel
theorem dX11_symbol_30 : decode cX11_symbol 30 = .ok (.aload_n 0, 1) := by decide +kernel
theorem dX11_symbol_31 : decode cX11_symbol 31 = .ok (.getfield 19, 3) := by decide +kernel
theorem dX11_symbol_34 : decode cX11_symbol 34 = .ok (.invokevirtual 96, 3) := by decide +kernel
theorem dX11_symbol_37 : decode cX11_symbol 37 = .ok (.ifCond .ne 7, 3) := by decide +kernel
theorem dX11_symbol_40 : decode cX11_symbol 40 = .ok (.sipush (-9001), 3) := by decide +kernel
theorem dX11_symbol_43 : decode cX11_symbol 43 = .ok (.ireturn, 1) := by decide +kernel
theorem dX11_symbol_44 : decode cX11_symbol 44 = .ok (.aload_n 0, 1) := by decide +kernel
theorem dX11_symbol_45 : decode cX11_symbol 45 = .ok (.getfield 35, 3) := by decide +kernel
theorem dX11_symbol_48 : decode cX11_symbol 48 = .ok (.aload_n 0, 1) := by decide +kernel
theorem dX11_symbol_49 : decode cX11_symbol 49 = .ok (.getfield 19, 3) := by decide +kernel
theorem dX11_symbol_52 : decode cX11_symbol 52 = .ok (.invokevirtual 99, 3) := by decide +kernel
theorem dX11_symbol_55 : decode cX11_symbol 55 = .ok (.aload_n 0, 1) := by decide +kernel
theorem dX11_symbol_56 : decode cX11_symbol 56 = .ok (.getfield 58, 3) := by decide +kernel
theorem dX11_symbol_59 : decode cX11_symbol 59 = .ok (.invokevirtual 103, 3) := by decide +kernel
theorem dX11_symbol_62 : decode cX11_symbol 62 = .ok (.iconst 0, 1) := by decide +kernel
theorem dX11_symbol_63 : decode cX11_symbol 63 = .ok (.ireturn, 1) := by decide +kernel
theorem dX11_order_0 : decode cX11_order 0 = .ok (.aload_n 0, 1) := by decide +kernel
theorem dX11_order_1 : decode cX11_order 1 = .ok (.getfield 35, 3) := by decide +kernel
theorem dX11_order_4 : decode cX11_order 4 = .ok (.getfield 106, 3) := by decide +kernel
theorem dX11_order_7 : decode cX11_order 7 = .ok (.ireturn, 1) := by decide +kernel
theorem dX11_op_0 : decode cX11_op 0 = .ok (.aload_n 0, 1) := by decide +kernel
theorem dX11_op_1 : decode cX11_op 1 = .ok (.getfield 35, 3) := by decide +kernel
theorem dX11_op_4 : decode cX11_op 4 = .ok (.iload_n 1, 1) := by decide +kernel
theorem dX11_op_5 : decode cX11_op 5 = .ok (.invokevirtual 109, 3) := by decide +kernel
theorem dX11_op_8 : decode cX11_op 8 = .ok (.ifCond .eq 13, 3) := by decide +kernel
theorem dX11_op_11 : decode cX11_op 11 = .ok (.iload_n 2, 1) := by decide +kernel
theorem dX11_op_12 : decode cX11_op 12 = .ok (.ifCond .lt 9, 3) := by decide +kernel
theorem dX11_op_15 : decode cX11_op 15 = .ok (.iload_n 2, 1) := by decide +kernel
theorem dX11_op_16 : decode cX11_op 16 = .ok (.bipush 12, 2) := by decide +kernel
theorem dX11_op_18 : decode cX11_op 18 = .ok (.if_icmp .lt 13, 3) := by decide +kernel
theorem dX11_op_21 : decode cX11_op 21 = .ok (.new 113, 3) := by decide +kernel
theorem dX11_op_24 : decode cX11_op 24 = .ok (.dup, 1) := by decide +kernel
theorem dX11_op_25 : decode cX11_op 25 = .ok (.ldc 115, 2) := by decide +kernel
theorem dX11_op_27 : decode cX11_op 27 = .ok (.invokespecial 117, 3) := by decide +kernel
theorem dX11_op_30 : decode cX11_op 30 = .ok (.athrow, 1) := by decide +kernel
theorem dX11_op_31 : decode cX11_op 31 = .ok (.aload_n 0, 1) := by decide +kernel
theorem dX11_op_32 : decode cX11_op 32 = .ok (.getfield 35, 3) := by decide +kernel
theorem dX11_op_35 : decode cX11_op 35 = .ok (.iload_n 1, 1) := by decide +kernel
theorem dX11_op_36 : decode cX11_op 36 = .ok (.iload_n 2, 1) := by decide +kernel
theorem dX11_op_37 : decode cX11_op 37 = .ok (.invokevirtual 118, 3) := by decide +kernel
theorem dX11_op_40 : decode cX11_op 40 = .ok (.ireturn, 1) := by decide +kernel
theorem dX11_laue_0 : decode cX11_laue 0 = .ok (.aload_n 0, 1) := by decide +kernel
theorem dX11_laue_1 : decode cX11_laue 1 = .ok (.getfield 35, 3) := by decide +kernel
theorem dX11_laue_4 : decode cX11_laue 4 = .ok (.invokevirtual 122, 3) := by decide +kernel
theorem dX11_laue_7 : decode cX11_laue 7 = .ok (.ireturn, 1) := by decide +kernel
theorem dX11_plain_0 : decode cX11_plain 0 = .ok (.iload_n 1, 1) := by decide +kernel
theorem dX11_plain_1 : decode cX11_plain 1 = .ok (.iconst 1, 1) := by decide +kernel
theorem dX11_plain_2 : decode cX11_plain 2 = .ok (.if_icmp .eq 10, 3) := by decide +kernel
theorem dX11_plain_5 : decode cX11_plain 5 = .ok (.iload_n 1, 1) := by decide +kernel
theorem dX11_plain_6 : decode cX11_plain 6 = .ok (.iconst (-1), 1) := by decide +kernel
theorem dX11_plain_7 : decode cX11_plain 7 = .ok (.if_icmp .eq 5, 3) := by decide +kernel
theorem dX11_plain_10 : decode cX11_plain 10 = .ok (.iconst 0, 1) := by decide +kernel
theorem dX11_plain_11 : decode cX11_plain 11 = .ok (.ireturn, 1) := by decide +kernel
theorem dX11_plain_12 : decode cX11_plain 12 = .ok (.aload_n 0, 1) := by decide +kernel
theorem dX11_plain_13 : decode cX11_plain 13 = .ok (.getfield 35, 3) := by decide +kernel
theorem dX11_plain_16 : decode cX11_plain 16 = .ok (.iload_n 1, 1) := by decide +kernel
theorem dX11_plain_17 : decode cX11_plain 17 = .ok (.invokevirtual 126, 3) := by decide +kernel
theorem dX11_plain_20 : decode cX11_plain 20 = .ok (.ireturn, 1) := by decide +kernel
theorem dX11_sent_0 : decode cX11_sent 0 = .ok (.aload_n 0, 1) := by decide +kernel
theorem dX11_sent_1 : decode cX11_sent 1 = .ok (.getfield 35, 3) := by decide +kernel
theorem dX11_sent_4 : decode cX11_sent 4 = .ok (.iload_n 1, 1) := by decide +kernel
theorem dX11_sent_5 : decode cX11_sent 5 = .ok (.invokevirtual 109, 3) := by decide +kernel
theorem dX11_sent_8 : decode cX11_sent 8 = .ok (.ifCond .eq 14, 3) := by decide +kernel
theorem dX11_sent_11 : decode cX11_sent 11 = .ok (.iload 5, 2) := by decide +kernel
theorem dX11_sent_13 : decode cX11_sent 13 = .ok (.ifCond .lt 9, 3) := by decide +kernel
theorem dX11_sent_16 : decode cX11_sent 16 = .ok (.iload 5, 2) := by decide +kernel
theorem dX11_sent_18 : decode cX11_sent 18 = .ok (.iconst 3, 1) := by decide +kernel
theorem dX11_sent_19 : decode cX11_sent 19 = .ok (.if_icmp .le 13, 3) := by decide +kernel
theorem dX11_sent_22 : decode cX11_sent 22 = .ok (.new 113, 3) := by decide +kernel
theorem dX11_sent_25 : decode cX11_sent 25 = .ok (.dup, 1) := by decide +kernel
theorem dX11_sent_26 : decode cX11_sent 26 = .ok (.ldc 130, 2) := by decide +kernel
theorem dX11_sent_28 : decode cX11_sent 28 = .ok (.invokespecial 117, 3) := by decide +kernel
theorem dX11_sent_31 : decode cX11_sent 31 = .ok (.athrow, 1) := by decide +kernel
theorem dX11_sent_32 : decode cX11_sent 32 = .ok (.iload_n 2, 1) := by decide +kernel
theorem dX11_sent_33 : decode cX11_sent 33 = .ok (.iload_n 3, 1) := by decide +kernel
theorem dX11_sent_34 : decode cX11_sent 34 = .ok (.iload 4, 2) := by decide +kernel
theorem dX11_sent_36 : decode cX11_sent 36 = .ok (.invokestatic 132, 3) := by decide +kernel
theorem dX11_sent_39 : decode cX11_sent 39 = .ok (.iload 5, 2) := by decide +kernel
theorem dX11_sent_41 : decode cX11_sent 41 = .ok (.iconst 3, 1) := by decide +kernel
theorem dX11_sent_42 : decode cX11_sent 42 = .ok (.if_icmp .ne 16, 3) := by decide +kernel
theorem dX11_sent_45 : decode cX11_sent 45 = .ok (.aload_n 0, 1) := by decide +kernel
theorem dX11_sent_46 : decode cX11_sent 46 = .ok (.getfield 35, 3) := by decide +kernel
theorem dX11_sent_49 : decode cX11_sent 49 = .ok (.iload_n 1, 1) := by decide +kernel
theorem dX11_sent_50 : decode cX11_sent 50 = .ok (.iload_n 2, 1) := by decide +kernel
theorem dX11_sent_51 : decode cX11_sent 51 = .ok (.iload_n 3, 1) := by decide +kernel
theorem dX11_sent_52 : decode cX11_sent 52 = .ok (.iload 4, 2) := by decide +kernel
theorem dX11_sent_54 : decode cX11_sent 54 = .ok (.invokevirtual 136, 3) := by decide +kernel
theorem dX11_sent_57 : decode cX11_sent 57 = .ok (.ireturn, 1) := by decide +kernel
theorem dX11_sent_58 : decode cX11_sent 58 = .ok (.aload_n 0, 1) := by decide +kernel
theorem dX11_sent_59 : decode cX11_sent 59 = .ok (.getfield 35, 3) := by decide +kernel
theorem dX11_sent_62 : decode cX11_sent 62 = .ok (.iload_n 1, 1) := by decide +kernel
theorem dX11_sent_63 : decode cX11_sent 63 = .ok (.iload 5, 2) := by decide +kernel
theorem dX11_sent_65 : decode cX11_sent 65 = .ok (.iload_n 2, 1) := by decide +kernel
theorem dX11_sent_66 : decode cX11_sent 66 = .ok (.iload_n 3, 1) := by decide +kernel
theorem dX11_sent_67 : decode cX11_sent 67 = .ok (.iload 4, 2) := by decide +kernel
theorem dX11_sent_69 : decode cX11_sent 69 = .ok (.invokevirtual 140, 3) := by decide +kernel
theorem dX11_sent_72 : decode cX11_sent 72 = .ok (.ireturn, 1) := by decide +kernel
theorem dX11_absent_0 : decode cX11_absent 0 = .ok (.aload_n 0, 1) := by decide +kernel
theorem dX11_absent_1 : decode cX11_absent 1 = .ok (.invokevirtual 144, 3) := by decide +kernel
theorem dX11_absent_4 : decode cX11_absent 4 = .ok (.iload_n 1, 1) := by decide +kernel
theorem dX11_absent_5 : decode cX11_absent 5 = .ok (.iload_n 2, 1) := by decide +kernel
theorem dX11_absent_6 : decode cX11_absent 6 = .ok (.iload_n 3, 1) := by decide +kernel
theorem dX11_absent_7 : decode cX11_absent 7 = .ok (.invokestatic 132, 3) := by decide +kernel
theorem dX11_absent_10 : decode cX11_absent 10 = .ok (.aload_n 0, 1) := by decide +kernel
theorem dX11_absent_11 : decode cX11_absent 11 = .ok (.getfield 35, 3) := by decide +kernel
theorem dX11_absent_14 : decode cX11_absent 14 = .ok (.iload_n 1, 1) := by decide +kernel
theorem dX11_absent_15 : decode cX11_absent 15 = .ok (.iload_n 2, 1) := by decide +kernel
theorem dX11_absent_16 : decode cX11_absent 16 = .ok (.iload_n 3, 1) := by decide +kernel
theorem dX11_absent_17 : decode cX11_absent 17 = .ok (.invokevirtual 147, 3) := by decide +kernel
theorem dX11_absent_20 : decode cX11_absent 20 = .ok (.ifCond .eq 7, 3) := by decide +kernel
theorem dX11_absent_23 : decode cX11_absent 23 = .ok (.iconst 1, 1) := by decide +kernel
theorem dX11_absent_24 : decode cX11_absent 24 = .ok (.goto 4, 3) := by decide +kernel
theorem dX11_absent_27 : decode cX11_absent 27 = .ok (.iconst 0, 1) := by decide +kernel
theorem dX11_absent_28 : decode cX11_absent 28 = .ok (.ireturn, 1) := by decide +kernel
theorem dX11_greatest_0 : decode cX11_greatest 0 = .ok (.aload_n 0, 1) := by decide +kernel
theorem dX11_greatest_1 : decode cX11_greatest 1 = .ok (.invokevirtual 144, 3) := by decide +kernel
theorem dX11_greatest_4 : decode cX11_greatest 4 = .ok (.iload_n 1, 1) := by decide +kernel
theorem dX11_greatest_5 : decode cX11_greatest 5 = .ok (.iload_n 2, 1) := by decide +kernel
theorem dX11_greatest_6 : decode cX11_greatest 6 = .ok (.iload_n 3, 1) := by decide +kernel
theorem dX11_greatest_7 : decode cX11_greatest 7 = .ok (.invokestatic 132, 3) := by decide +kernel
theorem dX11_greatest_10 : decode cX11_greatest 10 = .ok (.iload 4, 2) := by decide +kernel
theorem dX11_greatest_12 : decode cX11_greatest 12 = .ok (.ifCond .lt 9, 3) := by decide +kernel
theorem dX11_greatest_15 : decode cX11_greatest 15 = .ok (.iload 4, 2) := by decide +kernel
theorem dX11_greatest_17 : decode cX11_greatest 17 = .ok (.iconst 3, 1) := by decide +kernel
theorem dX11_greatest_18 : decode cX11_greatest 18 = .ok (.if_icmp .le 13, 3) := by decide +kernel
theorem dX11_greatest_21 : decode cX11_greatest 21 = .ok (.new 113, 3) := by decide +kernel
theorem dX11_greatest_24 : decode cX11_greatest 24 = .ok (.dup, 1) := by decide +kernel
theorem dX11_greatest_25 : decode cX11_greatest 25 = .ok (.ldc 151, 2) := by decide +kernel
theorem dX11_greatest_27 : decode cX11_greatest 27 = .ok (.invokespecial 117, 3) := by decide +kernel
theorem dX11_greatest_30 : decode cX11_greatest 30 = .ok (.athrow, 1) := by decide +kernel
theorem dX11_greatest_31 : decode cX11_greatest 31 = .ok (.iload 4, 2) := by decide +kernel
theorem dX11_greatest_33 : decode cX11_greatest 33 = .ok (.iconst 3, 1) := by decide +kernel
theorem dX11_greatest_34 : decode cX11_greatest 34 = .ok (.if_icmp .ne 14, 3) := by decide +kernel
theorem dX11_greatest_37 : decode cX11_greatest 37 = .ok (.aload_n 0, 1) := by decide +kernel
theorem dX11_greatest_38 : decode cX11_greatest 38 = .ok (.getfield 35, 3) := by decide +kernel
theorem dX11_greatest_41 : decode cX11_greatest 41 = .ok (.iload_n 1, 1) := by decide +kernel
theorem dX11_greatest_42 : decode cX11_greatest 42 = .ok (.iload_n 2, 1) := by decide +kernel
theorem dX11_greatest_43 : decode cX11_greatest 43 = .ok (.iload_n 3, 1) := by decide +kernel
theorem dX11_greatest_44 : decode cX11_greatest 44 = .ok (.invokevirtual 153, 3) := by decide +kernel
theorem dX11_greatest_47 : decode cX11_greatest 47 = .ok (.ireturn, 1) := by decide +kernel
theorem dX11_greatest_48 : decode cX11_greatest 48 = .ok (.aload_n 0, 1) := by decide +kernel
theorem dX11_greatest_49 : decode cX11_greatest 49 = .ok (.getfield 35, 3) := by decide +kernel
theorem dX11_greatest_52 : decode cX11_greatest 52 = .ok (.iload_n 1, 1) := by decide +kernel
theorem dX11_greatest_53 : decode cX11_greatest 53 = .ok (.iload_n 2, 1) := by decide +kernel
theorem dX11_greatest_54 : decode cX11_greatest 54 = .ok (.iload_n 3, 1) := by decide +kernel
theorem dX11_greatest_55 : decode cX11_greatest 55 = .ok (.invokevirtual 157, 3) := by decide +kernel
theorem dX11_greatest_58 : decode cX11_greatest 58 = .ok (.iload 4, 2) := by decide +kernel
theorem dX11_greatest_60 : decode cX11_greatest 60 = .ok (.invokestatic 160, 3) := by decide +kernel
theorem dX11_greatest_63 : decode cX11_greatest 63 = .ok (.ireturn, 1) := by decide +kernel
theorem dX11_file_0 : decode cX11_file 0 = .ok (.aload_n 0, 1) := by decide +kernel
theorem dX11_file_1 : decode cX11_file 1 = .ok (.getfield 51, 3) := by decide +kernel
theorem dX11_file_4 : decode cX11_file 4 = .ok (.invokevirtual 165, 3) := by decide +kernel
theorem dX11_file_7 : decode cX11_file 7 = .ok (.istore_n 1, 1) := by decide +kernel
theorem dX11_file_8 : decode cX11_file 8 = .ok (.aload_n 0, 1) := by decide +kernel
theorem dX11_file_9 : decode cX11_file 9 = .ok (.getfield 10, 3) := by decide +kernel
theorem dX11_file_12 : decode cX11_file 12 = .ok (.iconst 0, 1) := by decide +kernel
theorem dX11_file_13 : decode cX11_file 13 = .ok (.putfield 69, 3) := by decide +kernel
theorem dX11_file_16 : decode cX11_file 16 = .ok (.iload_n 1, 1) := by decide +kernel
theorem dX11_file_17 : decode cX11_file 17 = .ok (.ireturn, 1) := by decide +kernel
theorem dX11_drop_0 : decode cX11_drop 0 = .ok (.aload_n 0, 1) := by decide +kernel
theorem dX11_drop_1 : decode cX11_drop 1 = .ok (.getfield 42, 3) := by decide +kernel
theorem dX11_drop_4 : decode cX11_drop 4 = .ok (.getfield 167, 3) := by decide +kernel
theorem dX11_drop_7 : decode cX11_drop 7 = .ok (.istore_n 1, 1) := by decide +kernel
theorem dX11_drop_8 : decode cX11_drop 8 = .ok (.aload_n 0, 1) := by decide +kernel
theorem dX11_drop_9 : decode cX11_drop 9 = .ok (.getfield 42, 3) := by decide +kernel
theorem dX11_drop_12 : decode cX11_drop 12 = .ok (.iconst 0, 1) := by decide +kernel
theorem dX11_drop_13 : decode cX11_drop 13 = .ok (.putfield 167, 3) := by decide +kernel
theorem dX11_drop_16 : decode cX11_drop 16 = .ok (.aload_n 0, 1) := by decide +kernel
theorem dX11_drop_17 : decode cX11_drop 17 = .ok (.getfield 58, 3) := by decide +kernel
theorem dX11_drop_20 : decode cX11_drop 20 = .ok (.invokevirtual 103, 3) := by decide +kernel
theorem dX11_drop_23 : decode cX11_drop 23 = .ok (.iload_n 1, 1) := by decide +kernel
theorem dX11_drop_24 : decode cX11_drop 24 = .ok (.ireturn, 1) := by decide +kernel
theorem dX11_reflections_0 : decode cX11_reflections 0 = .ok (.aload_n 0, 1) := by decide +kernel
theorem dX11_reflections_1 : decode cX11_reflections 1 = .ok (.getfield 42, 3) := by decide +kernel
theorem dX11_reflections_4 : decode cX11_reflections 4 = .ok (.getfield 167, 3) := by decide +kernel
theorem dX11_reflections_7 : decode cX11_reflections 7 = .ok (.ireturn, 1) := by decide +kernel
theorem dX11_reflection_0 : decode cX11_reflection 0 = .ok (.iload_n 1, 1) := by decide +kernel
theorem dX11_reflection_1 : decode cX11_reflection 1 = .ok (.ifCond .lt 23, 3) := by decide +kernel
theorem dX11_reflection_4 : decode cX11_reflection 4 = .ok (.iload_n 1, 1) := by decide +kernel
theorem dX11_reflection_5 : decode cX11_reflection 5 = .ok (.aload_n 0, 1) := by decide +kernel
theorem dX11_reflection_6 : decode cX11_reflection 6 = .ok (.getfield 42, 3) := by decide +kernel
theorem dX11_reflection_9 : decode cX11_reflection 9 = .ok (.getfield 167, 3) := by decide +kernel
theorem dX11_reflection_12 : decode cX11_reflection 12 = .ok (.if_icmp .ge 12, 3) := by decide +kernel
theorem dX11_reflection_15 : decode cX11_reflection 15 = .ok (.iload_n 2, 1) := by decide +kernel
theorem dX11_reflection_16 : decode cX11_reflection 16 = .ok (.ifCond .lt 8, 3) := by decide +kernel
theorem dX11_reflection_19 : decode cX11_reflection 19 = .ok (.iload_n 2, 1) := by decide +kernel
theorem dX11_reflection_20 : decode cX11_reflection 20 = .ok (.iconst 4, 1) := by decide +kernel
theorem dX11_reflection_21 : decode cX11_reflection 21 = .ok (.if_icmp .le 13, 3) := by decide +kernel
theorem dX11_reflection_24 : decode cX11_reflection 24 = .ok (.new 113, 3) := by decide +kernel
theorem dX11_reflection_27 : decode cX11_reflection 27 = .ok (.dup, 1) := by decide +kernel
theorem dX11_reflection_28 : decode cX11_reflection 28 = .ok (.ldc 170, 2) := by decide +kernel
theorem dX11_reflection_30 : decode cX11_reflection 30 = .ok (.invokespecial 117, 3) := by decide +kernel
theorem dX11_reflection_33 : decode cX11_reflection 33 = .ok (.athrow, 1) := by decide +kernel
theorem dX11_reflection_34 : decode cX11_reflection 34 = .ok (.aload_n 0, 1) := by decide +kernel
theorem dX11_reflection_35 : decode cX11_reflection 35 = .ok (.getfield 42, 3) := by decide +kernel
theorem dX11_reflection_38 : decode cX11_reflection 38 = .ok (.iload_n 1, 1) := by decide +kernel
theorem dX11_reflection_39 : decode cX11_reflection 39 = .ok (.iload_n 2, 1) := by decide +kernel
theorem dX11_reflection_40 : decode cX11_reflection 40 = .ok (.invokevirtual 172, 3) := by decide +kernel
theorem dX11_reflection_43 : decode cX11_reflection 43 = .ok (.ireturn, 1) := by decide +kernel
theorem dX11_merge_0 : decode cX11_merge 0 = .ok (.aload_n 0, 1) := by decide +kernel
theorem dX11_merge_1 : decode cX11_merge 1 = .ok (.invokevirtual 144, 3) := by decide +kernel
theorem dX11_merge_4 : decode cX11_merge 4 = .ok (.aload_n 0, 1) := by decide +kernel
theorem dX11_merge_5 : decode cX11_merge 5 = .ok (.getfield 58, 3) := by decide +kernel
theorem dX11_merge_8 : decode cX11_merge 8 = .ok (.aload_n 0, 1) := by decide +kernel
theorem dX11_merge_9 : decode cX11_merge 9 = .ok (.getfield 42, 3) := by decide +kernel
theorem dX11_merge_12 : decode cX11_merge 12 = .ok (.aload_n 0, 1) := by decide +kernel
theorem dX11_merge_13 : decode cX11_merge 13 = .ok (.getfield 35, 3) := by decide +kernel
theorem dX11_merge_16 : decode cX11_merge 16 = .ok (.invokevirtual 173, 3) := by decide +kernel
theorem dX11_merge_19 : decode cX11_merge 19 = .ok (.aload_n 0, 1) := by decide +kernel
theorem dX11_merge_20 : decode cX11_merge 20 = .ok (.getfield 58, 3) := by decide +kernel
theorem dX11_merge_23 : decode cX11_merge 23 = .ok (.getfield 177, 3) := by decide +kernel
theorem dX11_merge_26 : decode cX11_merge 26 = .ok (.ireturn, 1) := by decide +kernel
theorem dX11_rows_0 : decode cX11_rows 0 = .ok (.aload_n 0, 1) := by decide +kernel
theorem dX11_rows_1 : decode cX11_rows 1 = .ok (.getfield 58, 3) := by decide +kernel
theorem dX11_rows_4 : decode cX11_rows 4 = .ok (.getfield 177, 3) := by decide +kernel
theorem dX11_rows_7 : decode cX11_rows 7 = .ok (.ireturn, 1) := by decide +kernel
theorem dX11_row_0 : decode cX11_row 0 = .ok (.iload_n 1, 1) := by decide +kernel
theorem dX11_row_1 : decode cX11_row 1 = .ok (.ifCond .lt 24, 3) := by decide +kernel
theorem dX11_row_4 : decode cX11_row 4 = .ok (.iload_n 1, 1) := by decide +kernel
theorem dX11_row_5 : decode cX11_row 5 = .ok (.aload_n 0, 1) := by decide +kernel
theorem dX11_row_6 : decode cX11_row 6 = .ok (.getfield 58, 3) := by decide +kernel
theorem dX11_row_9 : decode cX11_row 9 = .ok (.getfield 177, 3) := by decide +kernel
theorem dX11_row_12 : decode cX11_row 12 = .ok (.if_icmp .ge 13, 3) := by decide +kernel
theorem dX11_row_15 : decode cX11_row 15 = .ok (.iload_n 2, 1) := by decide +kernel
theorem dX11_row_16 : decode cX11_row 16 = .ok (.ifCond .lt 9, 3) := by decide +kernel
theorem dX11_row_19 : decode cX11_row 19 = .ok (.iload_n 2, 1) := by decide +kernel
theorem dX11_row_20 : decode cX11_row 20 = .ok (.bipush 9, 2) := by decide +kernel
theorem dX11_row_22 : decode cX11_row 22 = .ok (.if_icmp .le 13, 3) := by decide +kernel
theorem dX11_row_25 : decode cX11_row 25 = .ok (.new 113, 3) := by decide +kernel
theorem dX11_row_28 : decode cX11_row 28 = .ok (.dup, 1) := by decide +kernel
theorem dX11_row_29 : decode cX11_row 29 = .ok (.ldc 178, 2) := by decide +kernel
theorem dX11_row_31 : decode cX11_row 31 = .ok (.invokespecial 117, 3) := by decide +kernel
theorem dX11_row_34 : decode cX11_row 34 = .ok (.athrow, 1) := by decide +kernel
theorem dX11_row_35 : decode cX11_row 35 = .ok (.aload_n 0, 1) := by decide +kernel
theorem dX11_row_36 : decode cX11_row 36 = .ok (.getfield 58, 3) := by decide +kernel
theorem dX11_row_39 : decode cX11_row 39 = .ok (.iload_n 1, 1) := by decide +kernel
theorem dX11_row_40 : decode cX11_row 40 = .ok (.iload_n 2, 1) := by decide +kernel
theorem dX11_row_41 : decode cX11_row 41 = .ok (.invokevirtual 180, 3) := by decide +kernel
theorem dX11_row_44 : decode cX11_row 44 = .ok (.lreturn, 1) := by decide +kernel
theorem dX11_digits_0 : decode cX11_digits 0 = .ok (.iload_n 1, 1) := by decide +kernel
theorem dX11_digits_1 : decode cX11_digits 1 = .ok (.invokestatic 183, 3) := by decide +kernel
theorem dX11_digits_4 : decode cX11_digits 4 = .ok (.aload_n 0, 1) := by decide +kernel
theorem dX11_digits_5 : decode cX11_digits 5 = .ok (.getfield 58, 3) := by decide +kernel
theorem dX11_digits_8 : decode cX11_digits 8 = .ok (.getfield 186, 3) := by decide +kernel
theorem dX11_digits_11 : decode cX11_digits 11 = .ok (.getfield 190, 3) := by decide +kernel
theorem dX11_digits_14 : decode cX11_digits 14 = .ok (.ifCond .ne 5, 3) := by decide +kernel
theorem dX11_digits_17 : decode cX11_digits 17 = .ok (.iconst (-1), 1) := by decide +kernel
theorem dX11_digits_18 : decode cX11_digits 18 = .ok (.ireturn, 1) := by decide +kernel
theorem dX11_digits_19 : decode cX11_digits 19 = .ok (.aload_n 0, 1) := by decide +kernel
theorem dX11_digits_20 : decode cX11_digits 20 = .ok (.getfield 58, 3) := by decide +kernel
theorem dX11_digits_23 : decode cX11_digits 23 = .ok (.getfield 186, 3) := by decide +kernel
theorem dX11_digits_26 : decode cX11_digits 26 = .ok (.iload_n 1, 1) := by decide +kernel
theorem dX11_digits_27 : decode cX11_digits 27 = .ok (.invokevirtual 196, 3) := by decide +kernel
theorem dX11_digits_30 : decode cX11_digits 30 = .ok (.invokevirtual 199, 3) := by decide +kernel
theorem dX11_digits_33 : decode cX11_digits 33 = .ok (.ireturn, 1) := by decide +kernel
theorem dX11_digit_0 : decode cX11_digit 0 = .ok (.iload_n 1, 1) := by decide +kernel
theorem dX11_digit_1 : decode cX11_digit 1 = .ok (.invokestatic 183, 3) := by decide +kernel
theorem dX11_digit_4 : decode cX11_digit 4 = .ok (.aload_n 0, 1) := by decide +kernel
theorem dX11_digit_5 : decode cX11_digit 5 = .ok (.getfield 58, 3) := by decide +kernel
theorem dX11_digit_8 : decode cX11_digit 8 = .ok (.getfield 186, 3) := by decide +kernel
theorem dX11_digit_11 : decode cX11_digit 11 = .ok (.getfield 190, 3) := by decide +kernel
theorem dX11_digit_14 : decode cX11_digit 14 = .ok (.ifCond .ne 5, 3) := by decide +kernel
theorem dX11_digit_17 : decode cX11_digit 17 = .ok (.iconst 0, 1) := by decide +kernel
theorem dX11_digit_18 : decode cX11_digit 18 = .ok (.ireturn, 1) := by decide +kernel
theorem dX11_digit_19 : decode cX11_digit 19 = .ok (.aload_n 0, 1) := by decide +kernel
theorem dX11_digit_20 : decode cX11_digit 20 = .ok (.getfield 58, 3) := by decide +kernel
theorem dX11_digit_23 : decode cX11_digit 23 = .ok (.getfield 186, 3) := by decide +kernel
theorem dX11_digit_26 : decode cX11_digit 26 = .ok (.iload_n 1, 1) := by decide +kernel
theorem dX11_digit_27 : decode cX11_digit 27 = .ok (.invokevirtual 196, 3) := by decide +kernel
theorem dX11_digit_30 : decode cX11_digit 30 = .ok (.iload_n 2, 1) := by decide +kernel
theorem dX11_digit_31 : decode cX11_digit 31 = .ok (.invokevirtual 204, 3) := by decide +kernel
theorem dX11_digit_34 : decode cX11_digit 34 = .ok (.ireturn, 1) := by decide +kernel
theorem dX11_violations_0 : decode cX11_violations 0 = .ok (.aload_n 0, 1) := by decide +kernel
theorem dX11_violations_1 : decode cX11_violations 1 = .ok (.invokevirtual 144, 3) := by decide +kernel
theorem dX11_violations_4 : decode cX11_violations 4 = .ok (.iload_n 1, 1) := by decide +kernel
theorem dX11_violations_5 : decode cX11_violations 5 = .ok (.ifCond .lt 9, 3) := by decide +kernel
theorem dX11_violations_8 : decode cX11_violations 8 = .ok (.iload_n 1, 1) := by decide +kernel
theorem dX11_violations_9 : decode cX11_violations 9 = .ok (.bipush 100, 2) := by decide +kernel
theorem dX11_violations_11 : decode cX11_violations 11 = .ok (.if_icmp .le 13, 3) := by decide +kernel
theorem dX11_violations_14 : decode cX11_violations 14 = .ok (.new 84, 3) := by decide +kernel
theorem dX11_violations_17 : decode cX11_violations 17 = .ok (.dup, 1) := by decide +kernel
theorem dX11_violations_18 : decode cX11_violations 18 = .ok (.ldc 207, 2) := by decide +kernel
theorem dX11_violations_20 : decode cX11_violations 20 = .ok (.invokespecial 88, 3) := by decide +kernel
theorem dX11_violations_23 : decode cX11_violations 23 = .ok (.athrow, 1) := by decide +kernel
theorem dX11_violations_24 : decode cX11_violations 24 = .ok (.aload_n 0, 1) := by decide +kernel
theorem dX11_violations_25 : decode cX11_violations 25 = .ok (.getfield 65, 3) := by decide +kernel
theorem dX11_violations_28 : decode cX11_violations 28 = .ok (.iload_n 1, 1) := by decide +kernel
theorem dX11_violations_29 : decode cX11_violations 29 = .ok (.aload_n 0, 1) := by decide +kernel
theorem dX11_violations_30 : decode cX11_violations 30 = .ok (.getfield 42, 3) := by decide +kernel
theorem dX11_violations_33 : decode cX11_violations 33 = .ok (.aload_n 0, 1) := by decide +kernel
theorem dX11_violations_34 : decode cX11_violations 34 = .ok (.getfield 35, 3) := by decide +kernel
theorem dX11_violations_37 : decode cX11_violations 37 = .ok (.invokevirtual 209, 3) := by decide +kernel
theorem dX11_violations_40 : decode cX11_violations 40 = .ok (.aload_n 0, 1) := by decide +kernel
theorem dX11_violations_41 : decode cX11_violations 41 = .ok (.getfield 65, 3) := by decide +kernel
theorem dX11_violations_44 : decode cX11_violations 44 = .ok (.getfield 213, 3) := by decide +kernel
theorem dX11_violations_47 : decode cX11_violations 47 = .ok (.ireturn, 1) := by decide +kernel
theorem dX11_violation_0 : decode cX11_violation 0 = .ok (.aload_n 0, 1) := by decide +kernel
theorem dX11_violation_1 : decode cX11_violation 1 = .ok (.getfield 65, 3) := by decide +kernel
theorem dX11_violation_4 : decode cX11_violation 4 = .ok (.iload_n 1, 1) := by decide +kernel
theorem dX11_violation_5 : decode cX11_violation 5 = .ok (.invokevirtual 214, 3) := by decide +kernel
theorem dX11_violation_8 : decode cX11_violation 8 = .ok (.ireturn, 1) := by decide +kernel
theorem dX11_complete_0 : decode cX11_complete 0 = .ok (.aload_n 0, 1) := by decide +kernel
theorem dX11_complete_1 : decode cX11_complete 1 = .ok (.invokevirtual 144, 3) := by decide +kernel
theorem dX11_complete_4 : decode cX11_complete 4 = .ok (.iload_n 1, 1) := by decide +kernel
theorem dX11_complete_5 : decode cX11_complete 5 = .ok (.iconst 1, 1) := by decide +kernel
theorem dX11_complete_6 : decode cX11_complete 6 = .ok (.if_icmp .lt 9, 3) := by decide +kernel
theorem dX11_complete_9 : decode cX11_complete 9 = .ok (.iload_n 1, 1) := by decide +kernel
theorem dX11_complete_10 : decode cX11_complete 10 = .ok (.bipush 12, 2) := by decide +kernel
theorem dX11_complete_12 : decode cX11_complete 12 = .ok (.if_icmp .le 13, 3) := by decide +kernel
theorem dX11_complete_15 : decode cX11_complete 15 = .ok (.new 84, 3) := by decide +kernel
theorem dX11_complete_18 : decode cX11_complete 18 = .ok (.dup, 1) := by decide +kernel
theorem dX11_complete_19 : decode cX11_complete 19 = .ok (.ldc 217, 2) := by decide +kernel
theorem dX11_complete_21 : decode cX11_complete 21 = .ok (.invokespecial 88, 3) := by decide +kernel
theorem dX11_complete_24 : decode cX11_complete 24 = .ok (.athrow, 1) := by decide +kernel
theorem dX11_complete_25 : decode cX11_complete 25 = .ok (.iload_n 2, 1) := by decide +kernel
theorem dX11_complete_26 : decode cX11_complete 26 = .ok (.ifCond .eq 18, 3) := by decide +kernel
theorem dX11_complete_29 : decode cX11_complete 29 = .ok (.iload_n 2, 1) := by decide +kernel
theorem dX11_complete_30 : decode cX11_complete 30 = .ok (.iconst 1, 1) := by decide +kernel
theorem dX11_complete_31 : decode cX11_complete 31 = .ok (.if_icmp .eq 13, 3) := by decide +kernel
theorem dX11_complete_34 : decode cX11_complete 34 = .ok (.new 113, 3) := by decide +kernel
theorem dX11_complete_37 : decode cX11_complete 37 = .ok (.dup, 1) := by decide +kernel
theorem dX11_complete_38 : decode cX11_complete 38 = .ok (.ldc 219, 2) := by decide +kernel
theorem dX11_complete_40 : decode cX11_complete 40 = .ok (.invokespecial 117, 3) := by decide +kernel
theorem dX11_complete_43 : decode cX11_complete 43 = .ok (.athrow, 1) := by decide +kernel
theorem dX11_complete_44 : decode cX11_complete 44 = .ok (.iload_n 2, 1) := by decide +kernel
theorem dX11_complete_45 : decode cX11_complete 45 = .ok (.ifCond .ne 14, 3) := by decide +kernel
theorem dX11_complete_48 : decode cX11_complete 48 = .ok (.aload_n 0, 1) := by decide +kernel
theorem dX11_complete_49 : decode cX11_complete 49 = .ok (.getfield 58, 3) := by decide +kernel
theorem dX11_complete_52 : decode cX11_complete 52 = .ok (.iload_n 1, 1) := by decide +kernel
theorem dX11_complete_53 : decode cX11_complete 53 = .ok (.invokevirtual 221, 3) := by decide +kernel
theorem dX11_complete_56 : decode cX11_complete 56 = .ok (.goto 11, 3) := by decide +kernel
theorem dX11_complete_59 : decode cX11_complete 59 = .ok (.aload_n 0, 1) := by decide +kernel
theorem dX11_complete_60 : decode cX11_complete 60 = .ok (.getfield 35, 3) := by decide +kernel
theorem dX11_complete_63 : decode cX11_complete 63 = .ok (.iload_n 1, 1) := by decide +kernel
theorem dX11_complete_64 : decode cX11_complete 64 = .ok (.invokevirtual 224, 3) := by decide +kernel
theorem dX11_complete_67 : decode cX11_complete 67 = .ok (.ireturn, 1) := by decide +kernel
theorem dX11_requireGroup_0 : decode cX11_requireGroup 0 = .ok (.aload_n 0, 1) := by decide +kernel
theorem dX11_requireGroup_1 : decode cX11_requireGroup 1 = .ok (.getfield 35, 3) := by decide +kernel
theorem dX11_requireGroup_4 : decode cX11_requireGroup 4 = .ok (.getfield 106, 3) := by decide +kernel
theorem dX11_requireGroup_7 : decode cX11_requireGroup 7 = .ok (.ifCond .ne 13, 3) := by decide +kernel
theorem dX11_requireGroup_10 : decode cX11_requireGroup 10 = .ok (.new 73, 3) := by decide +kernel
theorem dX11_requireGroup_13 : decode cX11_requireGroup 13 = .ok (.dup, 1) := by decide +kernel
theorem dX11_requireGroup_14 : decode cX11_requireGroup 14 = .ok (.ldc 227, 2) := by decide +kernel
theorem dX11_requireGroup_16 : decode cX11_requireGroup 16 = .ok (.invokespecial 77, 3) := by decide +kernel
theorem dX11_requireGroup_19 : decode cX11_requireGroup 19 = .ok (.athrow, 1) := by decide +kernel
theorem dX11_requireGroup_20 : decode cX11_requireGroup 20 = .ok (.return_, 1) := by decide +kernel
theorem dX11_requireIndex_0 : decode cX11_requireIndex 0 = .ok (.iload_n 0, 1) := by decide +kernel
theorem dX11_requireIndex_1 : decode cX11_requireIndex 1 = .ok (.iload_n 1, 1) := by decide +kernel
theorem dX11_requireIndex_2 : decode cX11_requireIndex 2 = .ok (.iload_n 2, 1) := by decide +kernel
theorem dX11_requireIndex_3 : decode cX11_requireIndex 3 = .ok (.bipush 127, 2) := by decide +kernel
theorem dX11_requireIndex_5 : decode cX11_requireIndex 5 = .ok (.invokestatic 229, 3) := by decide +kernel
theorem dX11_requireIndex_8 : decode cX11_requireIndex 8 = .ok (.ifCond .ne 13, 3) := by decide +kernel
theorem dX11_requireIndex_11 : decode cX11_requireIndex 11 = .ok (.new 84, 3) := by decide +kernel
theorem dX11_requireIndex_14 : decode cX11_requireIndex 14 = .ok (.dup, 1) := by decide +kernel
theorem dX11_requireIndex_15 : decode cX11_requireIndex 15 = .ok (.ldc 233, 2) := by decide +kernel
theorem dX11_requireIndex_17 : decode cX11_requireIndex 17 = .ok (.invokespecial 88, 3) := by decide +kernel
theorem dX11_requireIndex_20 : decode cX11_requireIndex 20 = .ok (.athrow, 1) := by decide +kernel
theorem dX11_requireIndex_21 : decode cX11_requireIndex 21 = .ok (.return_, 1) := by decide +kernel
theorem dX11_requirePartOfQuotient_0 : decode cX11_requirePartOfQuotient 0 = .ok (.iload_n 0, 1) := by decide +kernel
theorem dX11_requirePartOfQuotient_1 : decode cX11_requirePartOfQuotient 1 = .ok (.ifCond .eq 18, 3) := by decide +kernel
theorem dX11_requirePartOfQuotient_4 : decode cX11_requirePartOfQuotient 4 = .ok (.iload_n 0, 1) := by decide +kernel
theorem dX11_requirePartOfQuotient_5 : decode cX11_requirePartOfQuotient 5 = .ok (.iconst 1, 1) := by decide +kernel
theorem dX11_requirePartOfQuotient_6 : decode cX11_requirePartOfQuotient 6 = .ok (.if_icmp .eq 13, 3) := by decide +kernel
theorem dX11_requirePartOfQuotient_9 : decode cX11_requirePartOfQuotient 9 = .ok (.new 113, 3) := by decide +kernel
theorem dX11_requirePartOfQuotient_12 : decode cX11_requirePartOfQuotient 12 = .ok (.dup, 1) := by decide +kernel
theorem dX11_requirePartOfQuotient_13 : decode cX11_requirePartOfQuotient 13 = .ok (.ldc 235, 2) := by decide +kernel
theorem dX11_requirePartOfQuotient_15 : decode cX11_requirePartOfQuotient 15 = .ok (.invokespecial 117, 3) := by decide +kernel
theorem dX11_requirePartOfQuotient_18 : decode cX11_requirePartOfQuotient 18 = .ok (.athrow, 1) := by decide +kernel
theorem dX11_requirePartOfQuotient_19 : decode cX11_requirePartOfQuotient 19 = .ok (.return_, 1) := by decide +kernel
theorem dX11_commonDivisor_0 : decode cX11_commonDivisor 0 = .ok (.lload_n 0, 1) := by decide +kernel
theorem dX11_commonDivisor_1 : decode cX11_commonDivisor 1 = .ok (.lstore 4, 2) := by decide +kernel
theorem dX11_commonDivisor_3 : decode cX11_commonDivisor 3 = .ok (.lload_n 2, 1) := by decide +kernel
theorem dX11_commonDivisor_4 : decode cX11_commonDivisor 4 = .ok (.lstore 6, 2) := by decide +kernel
theorem dX11_commonDivisor_6 : decode cX11_commonDivisor 6 = .ok (.iconst 0, 1) := by decide +kernel
theorem dX11_commonDivisor_7 : decode cX11_commonDivisor 7 = .ok (.istore 8, 2) := by decide +kernel
theorem dX11_commonDivisor_9 : decode cX11_commonDivisor 9 = .ok (.iload 8, 2) := by decide +kernel
theorem dX11_commonDivisor_11 : decode cX11_commonDivisor 11 = .ok (.sipush 128, 3) := by decide +kernel
theorem dX11_commonDivisor_14 : decode cX11_commonDivisor 14 = .ok (.if_icmp .ge 31, 3) := by decide +kernel
theorem dX11_commonDivisor_17 : decode cX11_commonDivisor 17 = .ok (.lload 6, 2) := by decide +kernel
theorem dX11_commonDivisor_19 : decode cX11_commonDivisor 19 = .ok (.lconst 0, 1) := by decide +kernel
theorem dX11_commonDivisor_20 : decode cX11_commonDivisor 20 = .ok (.lcmp, 1) := by decide +kernel
theorem dX11_commonDivisor_21 : decode cX11_commonDivisor 21 = .ok (.ifCond .le 24, 3) := by decide +kernel
theorem dX11_commonDivisor_24 : decode cX11_commonDivisor 24 = .ok (.lload 4, 2) := by decide +kernel
theorem dX11_commonDivisor_26 : decode cX11_commonDivisor 26 = .ok (.lload 6, 2) := by decide +kernel
theorem dX11_commonDivisor_28 : decode cX11_commonDivisor 28 = .ok (.lrem, 1) := by decide +kernel
theorem dX11_commonDivisor_29 : decode cX11_commonDivisor 29 = .ok (.lstore 9, 2) := by decide +kernel
theorem dX11_commonDivisor_31 : decode cX11_commonDivisor 31 = .ok (.lload 6, 2) := by decide +kernel
theorem dX11_commonDivisor_33 : decode cX11_commonDivisor 33 = .ok (.lstore 4, 2) := by decide +kernel
theorem dX11_commonDivisor_35 : decode cX11_commonDivisor 35 = .ok (.lload 9, 2) := by decide +kernel
theorem dX11_commonDivisor_37 : decode cX11_commonDivisor 37 = .ok (.lstore 6, 2) := by decide +kernel
theorem dX11_commonDivisor_39 : decode cX11_commonDivisor 39 = .ok (.iinc 8 1, 3) := by decide +kernel
theorem dX11_commonDivisor_42 : decode cX11_commonDivisor 42 = .ok (.goto (-33), 3) := by decide +kernel
theorem dX11_commonDivisor_45 : decode cX11_commonDivisor 45 = .ok (.lload 4, 2) := by decide +kernel
theorem dX11_commonDivisor_47 : decode cX11_commonDivisor 47 = .ok (.lconst 1, 1) := by decide +kernel
theorem dX11_commonDivisor_48 : decode cX11_commonDivisor 48 = .ok (.lcmp, 1) := by decide +kernel
theorem dX11_commonDivisor_49 : decode cX11_commonDivisor 49 = .ok (.ifCond .ge 7, 3) := by decide +kernel
theorem dX11_commonDivisor_52 : decode cX11_commonDivisor 52 = .ok (.lconst 1, 1) := by decide +kernel
theorem dX11_commonDivisor_53 : decode cX11_commonDivisor 53 = .ok (.goto 5, 3) := by decide +kernel
theorem dX11_commonDivisor_56 : decode cX11_commonDivisor 56 = .ok (.lload 4, 2) := by decide +kernel
theorem dX11_commonDivisor_58 : decode cX11_commonDivisor 58 = .ok (.lreturn, 1) := by decide +kernel
theorem dJ9_floorMod_7cf53_0 : decode cJ9_floorMod_7cf53 0 = .ok (.iload_n 0, 1) := by decide +kernel
theorem dJ9_floorMod_7cf53_1 : decode cJ9_floorMod_7cf53 1 = .ok (.iload_n 1, 1) := by decide +kernel
theorem dJ9_floorMod_7cf53_2 : decode cJ9_floorMod_7cf53 2 = .ok (.irem, 1) := by decide +kernel
theorem dJ9_floorMod_7cf53_3 : decode cJ9_floorMod_7cf53 3 = .ok (.istore_n 2, 1) := by decide +kernel
theorem dJ9_floorMod_7cf53_4 : decode cJ9_floorMod_7cf53 4 = .ok (.iload_n 0, 1) := by decide +kernel
theorem dJ9_floorMod_7cf53_5 : decode cJ9_floorMod_7cf53 5 = .ok (.iload_n 1, 1) := by decide +kernel
theorem dJ9_floorMod_7cf53_6 : decode cJ9_floorMod_7cf53 6 = .ok (.ixor, 1) := by decide +kernel
theorem dJ9_floorMod_7cf53_7 : decode cJ9_floorMod_7cf53 7 = .ok (.ifCond .ge 11, 3) := by decide +kernel
theorem dJ9_floorMod_7cf53_10 : decode cJ9_floorMod_7cf53 10 = .ok (.iload_n 2, 1) := by decide +kernel
theorem dJ9_floorMod_7cf53_11 : decode cJ9_floorMod_7cf53 11 = .ok (.ifCond .eq 7, 3) := by decide +kernel
theorem dJ9_floorMod_7cf53_14 : decode cJ9_floorMod_7cf53 14 = .ok (.iload_n 2, 1) := by decide +kernel
theorem dJ9_floorMod_7cf53_15 : decode cJ9_floorMod_7cf53 15 = .ok (.iload_n 1, 1) := by decide +kernel
theorem dJ9_floorMod_7cf53_16 : decode cJ9_floorMod_7cf53 16 = .ok (.iadd, 1) := by decide +kernel
theorem dJ9_floorMod_7cf53_17 : decode cJ9_floorMod_7cf53 17 = .ok (.ireturn, 1) := by decide +kernel
theorem dJ9_floorMod_7cf53_18 : decode cJ9_floorMod_7cf53 18 = .ok (.iload_n 2, 1) := by decide +kernel
theorem dJ9_floorMod_7cf53_19 : decode cJ9_floorMod_7cf53 19 = .ok (.ireturn, 1) := by decide +kernel
theorem dJ9_abs_067f4_0 : decode cJ9_abs_067f4 0 = .ok (.lload_n 0, 1) := by decide +kernel
theorem dJ9_abs_067f4_1 : decode cJ9_abs_067f4 1 = .ok (.lconst 0, 1) := by decide +kernel
theorem dJ9_abs_067f4_2 : decode cJ9_abs_067f4 2 = .ok (.lcmp, 1) := by decide +kernel
theorem dJ9_abs_067f4_3 : decode cJ9_abs_067f4 3 = .ok (.ifCond .ge 8, 3) := by decide +kernel
theorem dJ9_abs_067f4_6 : decode cJ9_abs_067f4 6 = .ok (.lload_n 0, 1) := by decide +kernel
theorem dJ9_abs_067f4_7 : decode cJ9_abs_067f4 7 = .ok (.lneg, 1) := by decide +kernel
theorem dJ9_abs_067f4_8 : decode cJ9_abs_067f4 8 = .ok (.goto 4, 3) := by decide +kernel
theorem dJ9_abs_067f4_11 : decode cJ9_abs_067f4 11 = .ok (.lload_n 0, 1) := by decide +kernel
theorem dJ9_abs_067f4_12 : decode cJ9_abs_067f4 12 = .ok (.lreturn, 1) := by decide +kernel
theorem dJ9_max_7cf53_0 : decode cJ9_max_7cf53 0 = .ok (.iload_n 0, 1) := by decide +kernel
theorem dJ9_max_7cf53_1 : decode cJ9_max_7cf53 1 = .ok (.iload_n 1, 1) := by decide +kernel
theorem dJ9_max_7cf53_2 : decode cJ9_max_7cf53 2 = .ok (.if_icmp .lt 7, 3) := by decide +kernel
theorem dJ9_max_7cf53_5 : decode cJ9_max_7cf53 5 = .ok (.iload_n 0, 1) := by decide +kernel
theorem dJ9_max_7cf53_6 : decode cJ9_max_7cf53 6 = .ok (.goto 4, 3) := by decide +kernel
theorem dJ9_max_7cf53_9 : decode cJ9_max_7cf53 9 = .ok (.iload_n 1, 1) := by decide +kernel
theorem dJ9_max_7cf53_10 : decode cJ9_max_7cf53 10 = .ok (.ireturn, 1) := by decide +kernel
