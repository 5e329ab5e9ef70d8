theorem dX12_joins_95 : decode cX12_joins 95 = .ok (.aload_n 0, 1) := by decide +kernel
theorem dX12_joins_96 : decode cX12_joins 96 = .ok (.aload_n 0, 1) := by decide +kernel
theorem dX12_joins_97 : decode cX12_joins 97 = .ok (.getfield 82, 3) := by decide +kernel
theorem dX12_joins_100 : decode cX12_joins 100 = .ok (.iconst 0, 1) := by decide +kernel
theorem dX12_joins_101 : decode cX12_joins 101 = .ok (.iload_n 1, 1) := by decide +kernel
theorem dX12_joins_102 : decode cX12_joins 102 = .ok (.iload_n 2, 1) := by decide +kernel
theorem dX12_joins_103 : decode cX12_joins 103 = .ok (.if_icmp .ge 7, 3) := by decide +kernel
theorem dX12_joins_106 : decode cX12_joins 106 = .ok (.iload_n 1, 1) := by decide +kernel
theorem dX12_joins_107 : decode cX12_joins 107 = .ok (.goto 4, 3) := by decide +kernel
theorem dX12_joins_110 : decode cX12_joins 110 = .ok (.iload_n 2, 1) := by decide +kernel
theorem dX12_joins_111 : decode cX12_joins 111 = .ok (.invokevirtual 85, 3) := by decide +kernel
theorem dX12_joins_114 : decode cX12_joins 114 = .ok (.aload_n 0, 1) := by decide +kernel
theorem dX12_joins_115 : decode cX12_joins 115 = .ok (.aload_n 0, 1) := by decide +kernel
theorem dX12_joins_116 : decode cX12_joins 116 = .ok (.getfield 82, 3) := by decide +kernel
theorem dX12_joins_119 : decode cX12_joins 119 = .ok (.iconst 1, 1) := by decide +kernel
theorem dX12_joins_120 : decode cX12_joins 120 = .ok (.iload_n 1, 1) := by decide +kernel
theorem dX12_joins_121 : decode cX12_joins 121 = .ok (.iload_n 2, 1) := by decide +kernel
theorem dX12_joins_122 : decode cX12_joins 122 = .ok (.if_icmp .ge 7, 3) := by decide +kernel
theorem dX12_joins_125 : decode cX12_joins 125 = .ok (.iload_n 2, 1) := by decide +kernel
theorem dX12_joins_126 : decode cX12_joins 126 = .ok (.goto 4, 3) := by decide +kernel
theorem dX12_joins_129 : decode cX12_joins 129 = .ok (.iload_n 1, 1) := by decide +kernel
theorem dX12_joins_130 : decode cX12_joins 130 = .ok (.invokevirtual 85, 3) := by decide +kernel
theorem dX12_joins_133 : decode cX12_joins 133 = .ok (.aload_n 0, 1) := by decide +kernel
theorem dX12_joins_134 : decode cX12_joins 134 = .ok (.aload_n 0, 1) := by decide +kernel
theorem dX12_joins_135 : decode cX12_joins 135 = .ok (.getfield 82, 3) := by decide +kernel
theorem dX12_joins_138 : decode cX12_joins 138 = .ok (.iconst 2, 1) := by decide +kernel
theorem dX12_joins_139 : decode cX12_joins 139 = .ok (.iload_n 3, 1) := by decide +kernel
theorem dX12_joins_140 : decode cX12_joins 140 = .ok (.invokevirtual 85, 3) := by decide +kernel
theorem dX12_joins_143 : decode cX12_joins 143 = .ok (.aload_n 0, 1) := by decide +kernel
theorem dX12_joins_144 : decode cX12_joins 144 = .ok (.aload_n 0, 1) := by decide +kernel
theorem dX12_joins_145 : decode cX12_joins 145 = .ok (.getfield 82, 3) := by decide +kernel
theorem dX12_joins_148 : decode cX12_joins 148 = .ok (.iconst 3, 1) := by decide +kernel
theorem dX12_joins_149 : decode cX12_joins 149 = .ok (.iload_n 3, 1) := by decide +kernel
theorem dX12_joins_150 : decode cX12_joins 150 = .ok (.invokevirtual 85, 3) := by decide +kernel
theorem dX12_joins_153 : decode cX12_joins 153 = .ok (.aload_n 0, 1) := by decide +kernel
theorem dX12_joins_154 : decode cX12_joins 154 = .ok (.aload_n 0, 1) := by decide +kernel
theorem dX12_joins_155 : decode cX12_joins 155 = .ok (.getfield 82, 3) := by decide +kernel
theorem dX12_joins_158 : decode cX12_joins 158 = .ok (.iconst 4, 1) := by decide +kernel
theorem dX12_joins_159 : decode cX12_joins 159 = .ok (.iconst 1, 1) := by decide +kernel
theorem dX12_joins_160 : decode cX12_joins 160 = .ok (.invokevirtual 85, 3) := by decide +kernel
theorem dX12_joins_163 : decode cX12_joins 163 = .ok (.aload_n 0, 1) := by decide +kernel
theorem dX12_joins_164 : decode cX12_joins 164 = .ok (.aload_n 0, 1) := by decide +kernel
theorem dX12_joins_165 : decode cX12_joins 165 = .ok (.getfield 82, 3) := by decide +kernel
theorem dX12_joins_168 : decode cX12_joins 168 = .ok (.iconst 5, 1) := by decide +kernel
theorem dX12_joins_169 : decode cX12_joins 169 = .ok (.iconst (-1), 1) := by decide +kernel
theorem dX12_joins_170 : decode cX12_joins 170 = .ok (.invokevirtual 85, 3) := by decide +kernel
theorem dX12_joins_173 : decode cX12_joins 173 = .ok (.aload_n 0, 1) := by decide +kernel
theorem dX12_joins_174 : decode cX12_joins 174 = .ok (.aload_n 0, 1) := by decide +kernel
theorem dX12_joins_175 : decode cX12_joins 175 = .ok (.getfield 82, 3) := by decide +kernel
theorem dX12_joins_178 : decode cX12_joins 178 = .ok (.bipush 8, 2) := by decide +kernel
theorem dX12_joins_180 : decode cX12_joins 180 = .ok (.iconst 2, 1) := by decide +kernel
theorem dX12_joins_181 : decode cX12_joins 181 = .ok (.invokevirtual 85, 3) := by decide +kernel
theorem dX12_joins_184 : decode cX12_joins 184 = .ok (.aload_n 0, 1) := by decide +kernel
theorem dX12_joins_185 : decode cX12_joins 185 = .ok (.aload_n 0, 1) := by decide +kernel
theorem dX12_joins_186 : decode cX12_joins 186 = .ok (.getfield 82, 3) := by decide +kernel
theorem dX12_joins_189 : decode cX12_joins 189 = .ok (.bipush 11, 2) := by decide +kernel
theorem dX12_joins_191 : decode cX12_joins 191 = .ok (.iconst 2, 1) := by decide +kernel
theorem dX12_joins_192 : decode cX12_joins 192 = .ok (.invokevirtual 85, 3) := by decide +kernel
theorem dX12_joins_195 : decode cX12_joins 195 = .ok (.iconst 0, 1) := by decide +kernel
theorem dX12_joins_196 : decode cX12_joins 196 = .ok (.ireturn, 1) := by decide +kernel
theorem dX12_breaks_0 : decode cX12_breaks 0 = .ok (.aload_n 0, 1) := by decide +kernel
theorem dX12_breaks_1 : decode cX12_breaks 1 = .ok (.iload_n 1, 1) := by decide +kernel
theorem dX12_breaks_2 : decode cX12_breaks 2 = .ok (.invokevirtual 89, 3) := by decide +kernel
theorem dX12_breaks_5 : decode cX12_breaks 5 = .ok (.ifCond .ne 5, 3) := by decide +kernel
theorem dX12_breaks_8 : decode cX12_breaks 8 = .ok (.iconst 1, 1) := by decide +kernel
theorem dX12_breaks_9 : decode cX12_breaks 9 = .ok (.ireturn, 1) := by decide +kernel
theorem dX12_breaks_10 : decode cX12_breaks 10 = .ok (.aload_n 0, 1) := by decide +kernel
theorem dX12_breaks_11 : decode cX12_breaks 11 = .ok (.iload_n 1, 1) := by decide +kernel
theorem dX12_breaks_12 : decode cX12_breaks 12 = .ok (.iconst 4, 1) := by decide +kernel
theorem dX12_breaks_13 : decode cX12_breaks 13 = .ok (.invokevirtual 62, 3) := by decide +kernel
theorem dX12_breaks_16 : decode cX12_breaks 16 = .ok (.ifCond .ne 5, 3) := by decide +kernel
theorem dX12_breaks_19 : decode cX12_breaks 19 = .ok (.iconst 2, 1) := by decide +kernel
theorem dX12_breaks_20 : decode cX12_breaks 20 = .ok (.ireturn, 1) := by decide +kernel
theorem dX12_breaks_21 : decode cX12_breaks 21 = .ok (.aload_n 0, 1) := by decide +kernel
theorem dX12_breaks_22 : decode cX12_breaks 22 = .ok (.iload_n 1, 1) := by decide +kernel
theorem dX12_breaks_23 : decode cX12_breaks 23 = .ok (.iconst 4, 1) := by decide +kernel
theorem dX12_breaks_24 : decode cX12_breaks 24 = .ok (.iconst 0, 1) := by decide +kernel
theorem dX12_breaks_25 : decode cX12_breaks 25 = .ok (.invokevirtual 85, 3) := by decide +kernel
theorem dX12_breaks_28 : decode cX12_breaks 28 = .ok (.aload_n 0, 1) := by decide +kernel
theorem dX12_breaks_29 : decode cX12_breaks 29 = .ok (.iconst 0, 1) := by decide +kernel
theorem dX12_breaks_30 : decode cX12_breaks 30 = .ok (.putfield 82, 3) := by decide +kernel
theorem dX12_breaks_33 : decode cX12_breaks 33 = .ok (.aload_n 0, 1) := by decide +kernel
theorem dX12_breaks_34 : decode cX12_breaks 34 = .ok (.iload_n 1, 1) := by decide +kernel
theorem dX12_breaks_35 : decode cX12_breaks 35 = .ok (.iconst 5, 1) := by decide +kernel
theorem dX12_breaks_36 : decode cX12_breaks 36 = .ok (.invokevirtual 62, 3) := by decide +kernel
theorem dX12_breaks_39 : decode cX12_breaks 39 = .ok (.istore_n 2, 1) := by decide +kernel
theorem dX12_breaks_40 : decode cX12_breaks 40 = .ok (.iload_n 2, 1) := by decide +kernel
theorem dX12_breaks_41 : decode cX12_breaks 41 = .ok (.ifCond .lt 84, 3) := by decide +kernel
theorem dX12_breaks_44 : decode cX12_breaks 44 = .ok (.aload_n 0, 1) := by decide +kernel
theorem dX12_breaks_45 : decode cX12_breaks 45 = .ok (.getfield 7, 3) := by decide +kernel
theorem dX12_breaks_48 : decode cX12_breaks 48 = .ok (.iconst 3, 1) := by decide +kernel
theorem dX12_breaks_49 : decode cX12_breaks 49 = .ok (.iaload, 1) := by decide +kernel
theorem dX12_breaks_50 : decode cX12_breaks 50 = .ok (.aload_n 0, 1) := by decide +kernel
theorem dX12_breaks_51 : decode cX12_breaks 51 = .ok (.getfield 7, 3) := by decide +kernel
theorem dX12_breaks_54 : decode cX12_breaks 54 = .ok (.iconst 1, 1) := by decide +kernel
theorem dX12_breaks_55 : decode cX12_breaks 55 = .ok (.iaload, 1) := by decide +kernel
theorem dX12_breaks_56 : decode cX12_breaks 56 = .ok (.aload_n 0, 1) := by decide +kernel
theorem dX12_breaks_57 : decode cX12_breaks 57 = .ok (.getfield 7, 3) := by decide +kernel
theorem dX12_breaks_60 : decode cX12_breaks 60 = .ok (.iconst 3, 1) := by decide +kernel
theorem dX12_breaks_61 : decode cX12_breaks 61 = .ok (.iaload, 1) := by decide +kernel
theorem dX12_breaks_62 : decode cX12_breaks 62 = .ok (.irem, 1) := by decide +kernel
theorem dX12_breaks_63 : decode cX12_breaks 63 = .ok (.isub, 1) := by decide +kernel
theorem dX12_breaks_64 : decode cX12_breaks 64 = .ok (.istore_n 3, 1) := by decide +kernel
theorem dX12_breaks_65 : decode cX12_breaks 65 = .ok (.aload_n 0, 1) := by decide +kernel
theorem dX12_breaks_66 : decode cX12_breaks 66 = .ok (.aload_n 0, 1) := by decide +kernel
theorem dX12_breaks_67 : decode cX12_breaks 67 = .ok (.iload_n 1, 1) := by decide +kernel
theorem dX12_breaks_68 : decode cX12_breaks 68 = .ok (.bipush 6, 2) := by decide +kernel
theorem dX12_breaks_70 : decode cX12_breaks 70 = .ok (.invokevirtual 62, 3) := by decide +kernel
theorem dX12_breaks_73 : decode cX12_breaks 73 = .ok (.iload_n 3, 1) := by decide +kernel
theorem dX12_breaks_74 : decode cX12_breaks 74 = .ok (.imul, 1) := by decide +kernel
theorem dX12_breaks_75 : decode cX12_breaks 75 = .ok (.aload_n 0, 1) := by decide +kernel
theorem dX12_breaks_76 : decode cX12_breaks 76 = .ok (.getfield 7, 3) := by decide +kernel
theorem dX12_breaks_79 : decode cX12_breaks 79 = .ok (.iconst 3, 1) := by decide +kernel
theorem dX12_breaks_80 : decode cX12_breaks 80 = .ok (.iaload, 1) := by decide +kernel
theorem dX12_breaks_81 : decode cX12_breaks 81 = .ok (.idiv, 1) := by decide +kernel
theorem dX12_breaks_82 : decode cX12_breaks 82 = .ok (.putfield 82, 3) := by decide +kernel
theorem dX12_breaks_85 : decode cX12_breaks 85 = .ok (.aload_n 0, 1) := by decide +kernel
theorem dX12_breaks_86 : decode cX12_breaks 86 = .ok (.getfield 7, 3) := by decide +kernel
theorem dX12_breaks_89 : decode cX12_breaks 89 = .ok (.sipush 187, 3) := by decide +kernel
theorem dX12_breaks_92 : decode cX12_breaks 92 = .ok (.iconst 3, 1) := by decide +kernel
theorem dX12_breaks_93 : decode cX12_breaks 93 = .ok (.iload_n 2, 1) := by decide +kernel
theorem dX12_breaks_94 : decode cX12_breaks 94 = .ok (.imul, 1) := by decide +kernel
theorem dX12_breaks_95 : decode cX12_breaks 95 = .ok (.iadd, 1) := by decide +kernel
theorem dX12_breaks_96 : decode cX12_breaks 96 = .ok (.dup2, 1) := by decide +kernel
theorem dX12_breaks_97 : decode cX12_breaks 97 = .ok (.iaload, 1) := by decide +kernel
theorem dX12_breaks_98 : decode cX12_breaks 98 = .ok (.aload_n 0, 1) := by decide +kernel
theorem dX12_breaks_99 : decode cX12_breaks 99 = .ok (.getfield 82, 3) := by decide +kernel
theorem dX12_breaks_102 : decode cX12_breaks 102 = .ok (.iadd, 1) := by decide +kernel
theorem dX12_breaks_103 : decode cX12_breaks 103 = .ok (.iastore, 1) := by decide +kernel
theorem dX12_breaks_104 : decode cX12_breaks 104 = .ok (.aload_n 0, 1) := by decide +kernel
theorem dX12_breaks_105 : decode cX12_breaks 105 = .ok (.getfield 7, 3) := by decide +kernel
theorem dX12_breaks_108 : decode cX12_breaks 108 = .ok (.sipush 187, 3) := by decide +kernel
theorem dX12_breaks_111 : decode cX12_breaks 111 = .ok (.iconst 3, 1) := by decide +kernel
theorem dX12_breaks_112 : decode cX12_breaks 112 = .ok (.iload_n 2, 1) := by decide +kernel
theorem dX12_breaks_113 : decode cX12_breaks 113 = .ok (.imul, 1) := by decide +kernel
theorem dX12_breaks_114 : decode cX12_breaks 114 = .ok (.iadd, 1) := by decide +kernel
theorem dX12_breaks_115 : decode cX12_breaks 115 = .ok (.iconst 2, 1) := by decide +kernel
theorem dX12_breaks_116 : decode cX12_breaks 116 = .ok (.iadd, 1) := by decide +kernel
theorem dX12_breaks_117 : decode cX12_breaks 117 = .ok (.dup2, 1) := by decide +kernel
theorem dX12_breaks_118 : decode cX12_breaks 118 = .ok (.iaload, 1) := by decide +kernel
theorem dX12_breaks_119 : decode cX12_breaks 119 = .ok (.aload_n 0, 1) := by decide +kernel
theorem dX12_breaks_120 : decode cX12_breaks 120 = .ok (.getfield 82, 3) := by decide +kernel
theorem dX12_breaks_123 : decode cX12_breaks 123 = .ok (.iadd, 1) := by decide +kernel
theorem dX12_breaks_124 : decode cX12_breaks 124 = .ok (.iastore, 1) := by decide +kernel
theorem dX12_breaks_125 : decode cX12_breaks 125 = .ok (.aload_n 0, 1) := by decide +kernel
theorem dX12_breaks_126 : decode cX12_breaks 126 = .ok (.iload_n 1, 1) := by decide +kernel
theorem dX12_breaks_127 : decode cX12_breaks 127 = .ok (.iconst 5, 1) := by decide +kernel
theorem dX12_breaks_128 : decode cX12_breaks 128 = .ok (.iconst (-1), 1) := by decide +kernel
theorem dX12_breaks_129 : decode cX12_breaks 129 = .ok (.invokevirtual 85, 3) := by decide +kernel
theorem dX12_breaks_132 : decode cX12_breaks 132 = .ok (.aload_n 0, 1) := by decide +kernel
theorem dX12_breaks_133 : decode cX12_breaks 133 = .ok (.iload_n 1, 1) := by decide +kernel
theorem dX12_breaks_134 : decode cX12_breaks 134 = .ok (.bipush 6, 2) := by decide +kernel
theorem dX12_breaks_136 : decode cX12_breaks 136 = .ok (.iconst 0, 1) := by decide +kernel
theorem dX12_breaks_137 : decode cX12_breaks 137 = .ok (.invokevirtual 85, 3) := by decide +kernel
theorem dX12_breaks_140 : decode cX12_breaks 140 = .ok (.iconst 0, 1) := by decide +kernel
theorem dX12_breaks_141 : decode cX12_breaks 141 = .ok (.ireturn, 1) := by decide +kernel
theorem dX12_mends_0 : decode cX12_mends 0 = .ok (.aload_n 0, 1) := by decide +kernel
theorem dX12_mends_1 : decode cX12_mends 1 = .ok (.iload_n 1, 1) := by decide +kernel
theorem dX12_mends_2 : decode cX12_mends 2 = .ok (.invokevirtual 89, 3) := by decide +kernel
theorem dX12_mends_5 : decode cX12_mends 5 = .ok (.ifCond .ne 5, 3) := by decide +kernel
theorem dX12_mends_8 : decode cX12_mends 8 = .ok (.iconst 1, 1) := by decide +kernel
theorem dX12_mends_9 : decode cX12_mends 9 = .ok (.ireturn, 1) := by decide +kernel
theorem dX12_mends_10 : decode cX12_mends 10 = .ok (.aload_n 0, 1) := by decide +kernel
theorem dX12_mends_11 : decode cX12_mends 11 = .ok (.iload_n 1, 1) := by decide +kernel
theorem dX12_mends_12 : decode cX12_mends 12 = .ok (.iconst 4, 1) := by decide +kernel
theorem dX12_mends_13 : decode cX12_mends 13 = .ok (.invokevirtual 62, 3) := by decide +kernel
theorem dX12_mends_16 : decode cX12_mends 16 = .ok (.iconst 1, 1) := by decide +kernel
theorem dX12_mends_17 : decode cX12_mends 17 = .ok (.if_icmp .ne 5, 3) := by decide +kernel
theorem dX12_mends_20 : decode cX12_mends 20 = .ok (.iconst 2, 1) := by decide +kernel
theorem dX12_mends_21 : decode cX12_mends 21 = .ok (.ireturn, 1) := by decide +kernel
theorem dX12_mends_22 : decode cX12_mends 22 = .ok (.aload_n 0, 1) := by decide +kernel
theorem dX12_mends_23 : decode cX12_mends 23 = .ok (.iload_n 1, 1) := by decide +kernel
theorem dX12_mends_24 : decode cX12_mends 24 = .ok (.iconst 4, 1) := by decide +kernel
theorem dX12_mends_25 : decode cX12_mends 25 = .ok (.iconst 1, 1) := by decide +kernel
theorem dX12_mends_26 : decode cX12_mends 26 = .ok (.invokevirtual 85, 3) := by decide +kernel
theorem dX12_mends_29 : decode cX12_mends 29 = .ok (.aload_n 0, 1) := by decide +kernel
theorem dX12_mends_30 : decode cX12_mends 30 = .ok (.iconst 0, 1) := by decide +kernel
theorem dX12_mends_31 : decode cX12_mends 31 = .ok (.putfield 82, 3) := by decide +kernel
theorem dX12_mends_34 : decode cX12_mends 34 = .ok (.iconst 0, 1) := by decide +kernel
theorem dX12_mends_35 : decode cX12_mends 35 = .ok (.istore_n 2, 1) := by decide +kernel
theorem dX12_mends_36 : decode cX12_mends 36 = .ok (.iload_n 2, 1) := by decide +kernel
theorem dX12_mends_37 : decode cX12_mends 37 = .ok (.aload_n 0, 1) := by decide +kernel
theorem dX12_mends_38 : decode cX12_mends 38 = .ok (.getfield 7, 3) := by decide +kernel
theorem dX12_mends_41 : decode cX12_mends 41 = .ok (.iconst 5, 1) := by decide +kernel
theorem dX12_mends_42 : decode cX12_mends 42 = .ok (.iaload, 1) := by decide +kernel
theorem dX12_mends_43 : decode cX12_mends 43 = .ok (.if_icmp .ge 24, 3) := by decide +kernel
theorem dX12_mends_46 : decode cX12_mends 46 = .ok (.aload_n 0, 1) := by decide +kernel
theorem dX12_mends_47 : decode cX12_mends 47 = .ok (.dup, 1) := by decide +kernel
theorem dX12_mends_48 : decode cX12_mends 48 = .ok (.getfield 82, 3) := by decide +kernel
theorem dX12_mends_51 : decode cX12_mends 51 = .ok (.aload_n 0, 1) := by decide +kernel
theorem dX12_mends_52 : decode cX12_mends 52 = .ok (.iload_n 2, 1) := by decide +kernel
theorem dX12_mends_53 : decode cX12_mends 53 = .ok (.iconst 4, 1) := by decide +kernel
theorem dX12_mends_54 : decode cX12_mends 54 = .ok (.invokevirtual 62, 3) := by decide +kernel
theorem dX12_mends_57 : decode cX12_mends 57 = .ok (.iadd, 1) := by decide +kernel
theorem dX12_mends_58 : decode cX12_mends 58 = .ok (.putfield 82, 3) := by decide +kernel
theorem dX12_mends_61 : decode cX12_mends 61 = .ok (.iinc 2 1, 3) := by decide +kernel
theorem dX12_mends_64 : decode cX12_mends 64 = .ok (.goto (-28), 3) := by decide +kernel
theorem dX12_mends_67 : decode cX12_mends 67 = .ok (.iconst 0, 1) := by decide +kernel
theorem dX12_mends_68 : decode cX12_mends 68 = .ok (.ireturn, 1) := by decide +kernel
theorem dX12_moves_0 : decode cX12_moves 0 = .ok (.iload_n 1, 1) := by decide +kernel
theorem dX12_moves_1 : decode cX12_moves 1 = .ok (.invokestatic 92, 3) := by decide +kernel
theorem dX12_moves_4 : decode cX12_moves 4 = .ok (.ifCond .eq 11, 3) := by decide +kernel
theorem dX12_moves_7 : decode cX12_moves 7 = .ok (.aload_n 0, 1) := by decide +kernel
theorem dX12_moves_8 : decode cX12_moves 8 = .ok (.iload_n 2, 1) := by decide +kernel
theorem dX12_moves_9 : decode cX12_moves 9 = .ok (.invokevirtual 79, 3) := by decide +kernel
theorem dX12_moves_12 : decode cX12_moves 12 = .ok (.ifCond .ne 5, 3) := by decide +kernel
theorem dX12_moves_15 : decode cX12_moves 15 = .ok (.iconst 1, 1) := by decide +kernel
theorem dX12_moves_16 : decode cX12_moves 16 = .ok (.ireturn, 1) := by decide +kernel
theorem dX12_moves_17 : decode cX12_moves 17 = .ok (.aload_n 0, 1) := by decide +kernel
theorem dX12_moves_18 : decode cX12_moves 18 = .ok (.aload_n 0, 1) := by decide +kernel
theorem dX12_moves_19 : decode cX12_moves 19 = .ok (.getfield 7, 3) := by decide +kernel
theorem dX12_moves_22 : decode cX12_moves 22 = .ok (.sipush 179, 3) := by decide +kernel
theorem dX12_moves_25 : decode cX12_moves 25 = .ok (.iload_n 1, 1) := by decide +kernel
theorem dX12_moves_26 : decode cX12_moves 26 = .ok (.iadd, 1) := by decide +kernel
theorem dX12_moves_27 : decode cX12_moves 27 = .ok (.iaload, 1) := by decide +kernel
theorem dX12_moves_28 : decode cX12_moves 28 = .ok (.putfield 82, 3) := by decide +kernel
theorem dX12_moves_31 : decode cX12_moves 31 = .ok (.aload_n 0, 1) := by decide +kernel
theorem dX12_moves_32 : decode cX12_moves 32 = .ok (.getfield 7, 3) := by decide +kernel
theorem dX12_moves_35 : decode cX12_moves 35 = .ok (.sipush 179, 3) := by decide +kernel
theorem dX12_moves_38 : decode cX12_moves 38 = .ok (.iload_n 1, 1) := by decide +kernel
theorem dX12_moves_39 : decode cX12_moves 39 = .ok (.iadd, 1) := by decide +kernel
theorem dX12_moves_40 : decode cX12_moves 40 = .ok (.iload_n 2, 1) := by decide +kernel
theorem dX12_moves_41 : decode cX12_moves 41 = .ok (.iastore, 1) := by decide +kernel
theorem dX12_moves_42 : decode cX12_moves 42 = .ok (.iconst 0, 1) := by decide +kernel
theorem dX12_moves_43 : decode cX12_moves 43 = .ok (.ireturn, 1) := by decide +kernel
theorem dX12_bids_0 : decode cX12_bids 0 = .ok (.iload_n 1, 1) := by decide +kernel
theorem dX12_bids_1 : decode cX12_bids 1 = .ok (.invokestatic 95, 3) := by decide +kernel
theorem dX12_bids_4 : decode cX12_bids 4 = .ok (.ifCond .eq 11, 3) := by decide +kernel
theorem dX12_bids_7 : decode cX12_bids 7 = .ok (.aload_n 0, 1) := by decide +kernel
theorem dX12_bids_8 : decode cX12_bids 8 = .ok (.iload_n 2, 1) := by decide +kernel
theorem dX12_bids_9 : decode cX12_bids 9 = .ok (.invokevirtual 89, 3) := by decide +kernel
theorem dX12_bids_12 : decode cX12_bids 12 = .ok (.ifCond .ne 5, 3) := by decide +kernel
theorem dX12_bids_15 : decode cX12_bids 15 = .ok (.iconst 1, 1) := by decide +kernel
theorem dX12_bids_16 : decode cX12_bids 16 = .ok (.ireturn, 1) := by decide +kernel
theorem dX12_bids_17 : decode cX12_bids 17 = .ok (.iload_n 3, 1) := by decide +kernel
theorem dX12_bids_18 : decode cX12_bids 18 = .ok (.iconst 0, 1) := by decide +kernel
theorem dX12_bids_19 : decode cX12_bids 19 = .ok (.sipush 1000, 3) := by decide +kernel
theorem dX12_bids_22 : decode cX12_bids 22 = .ok (.invokestatic 49, 3) := by decide +kernel
theorem dX12_bids_25 : decode cX12_bids 25 = .ok (.ifCond .ne 5, 3) := by decide +kernel
theorem dX12_bids_28 : decode cX12_bids 28 = .ok (.iconst 2, 1) := by decide +kernel
theorem dX12_bids_29 : decode cX12_bids 29 = .ok (.ireturn, 1) := by decide +kernel
theorem dX12_bids_30 : decode cX12_bids 30 = .ok (.aload_n 0, 1) := by decide +kernel
theorem dX12_bids_31 : decode cX12_bids 31 = .ok (.aload_n 0, 1) := by decide +kernel
theorem dX12_bids_32 : decode cX12_bids 32 = .ok (.iload_n 2, 1) := by decide +kernel
theorem dX12_bids_33 : decode cX12_bids 33 = .ok (.bipush 14, 2) := by decide +kernel
theorem dX12_bids_35 : decode cX12_bids 35 = .ok (.iload_n 1, 1) := by decide +kernel
theorem dX12_bids_36 : decode cX12_bids 36 = .ok (.iadd, 1) := by decide +kernel
theorem dX12_bids_37 : decode cX12_bids 37 = .ok (.invokevirtual 62, 3) := by decide +kernel
theorem dX12_bids_40 : decode cX12_bids 40 = .ok (.putfield 82, 3) := by decide +kernel
theorem dX12_bids_43 : decode cX12_bids 43 = .ok (.aload_n 0, 1) := by decide +kernel
theorem dX12_bids_44 : decode cX12_bids 44 = .ok (.iload_n 2, 1) := by decide +kernel
theorem dX12_bids_45 : decode cX12_bids 45 = .ok (.bipush 14, 2) := by decide +kernel
theorem dX12_bids_47 : decode cX12_bids 47 = .ok (.iload_n 1, 1) := by decide +kernel
theorem dX12_bids_48 : decode cX12_bids 48 = .ok (.iadd, 1) := by decide +kernel
theorem dX12_bids_49 : decode cX12_bids 49 = .ok (.iload_n 3, 1) := by decide +kernel
theorem dX12_bids_50 : decode cX12_bids 50 = .ok (.invokevirtual 85, 3) := by decide +kernel
theorem dX12_bids_53 : decode cX12_bids 53 = .ok (.iconst 0, 1) := by decide +kernel
theorem dX12_bids_54 : decode cX12_bids 54 = .ok (.ireturn, 1) := by decide +kernel
theorem dX12_ticks_0 : decode cX12_ticks 0 = .ok (.iload_n 1, 1) := by decide +kernel
theorem dX12_ticks_1 : decode cX12_ticks 1 = .ok (.iconst 1, 1) := by decide +kernel
theorem dX12_ticks_2 : decode cX12_ticks 2 = .ok (.sipush 200, 3) := by decide +kernel
theorem dX12_ticks_5 : decode cX12_ticks 5 = .ok (.invokestatic 49, 3) := by decide +kernel
theorem dX12_ticks_8 : decode cX12_ticks 8 = .ok (.ifCond .ne 5, 3) := by decide +kernel
theorem dX12_ticks_11 : decode cX12_ticks 11 = .ok (.iconst 1, 1) := by decide +kernel
theorem dX12_ticks_12 : decode cX12_ticks 12 = .ok (.ireturn, 1) := by decide +kernel
theorem dX12_ticks_13 : decode cX12_ticks 13 = .ok (.iconst 0, 1) := by decide +kernel
theorem dX12_ticks_14 : decode cX12_ticks 14 = .ok (.istore_n 2, 1) := by decide +kernel
theorem dX12_ticks_15 : decode cX12_ticks 15 = .ok (.iload_n 2, 1) := by decide +kernel
theorem dX12_ticks_16 : decode cX12_ticks 16 = .ok (.iload_n 1, 1) := by decide +kernel
theorem dX12_ticks_17 : decode cX12_ticks 17 = .ok (.if_icmp .ge 13, 3) := by decide +kernel
theorem dX12_ticks_20 : decode cX12_ticks 20 = .ok (.aload_n 0, 1) := by decide +kernel
theorem dX12_ticks_21 : decode cX12_ticks 21 = .ok (.invokevirtual 98, 3) := by decide +kernel
theorem dX12_ticks_24 : decode cX12_ticks 24 = .ok (.iinc 2 1, 3) := by decide +kernel
theorem dX12_ticks_27 : decode cX12_ticks 27 = .ok (.goto (-12), 3) := by decide +kernel
theorem dX12_ticks_30 : decode cX12_ticks 30 = .ok (.aload_n 0, 1) := by decide +kernel
theorem dX12_ticks_31 : decode cX12_ticks 31 = .ok (.aload_n 0, 1) := by decide +kernel
theorem dX12_ticks_32 : decode cX12_ticks 32 = .ok (.getfield 7, 3) := by decide +kernel
theorem dX12_ticks_35 : decode cX12_ticks 35 = .ok (.iconst 1, 1) := by decide +kernel
theorem dX12_ticks_36 : decode cX12_ticks 36 = .ok (.iaload, 1) := by decide +kernel
theorem dX12_ticks_37 : decode cX12_ticks 37 = .ok (.putfield 82, 3) := by decide +kernel
theorem dX12_ticks_40 : decode cX12_ticks 40 = .ok (.iconst 0, 1) := by decide +kernel
theorem dX12_ticks_41 : decode cX12_ticks 41 = .ok (.ireturn, 1) := by decide +kernel
theorem dX12_done_0 : decode cX12_done 0 = .ok (.iload_n 1, 1) := by decide +kernel
theorem dX12_done_1 : decode cX12_done 1 = .ok (.ifCond .le 11, 3) := by decide +kernel
theorem dX12_done_4 : decode cX12_done 4 = .ok (.aload_n 0, 1) := by decide +kernel
theorem dX12_done_5 : decode cX12_done 5 = .ok (.iload_n 1, 1) := by decide +kernel
theorem dX12_done_6 : decode cX12_done 6 = .ok (.invokevirtual 70, 3) := by decide +kernel
theorem dX12_done_9 : decode cX12_done 9 = .ok (.goto 11, 3) := by decide +kernel
theorem dX12_done_12 : decode cX12_done 12 = .ok (.aload_n 0, 1) := by decide +kernel
theorem dX12_done_13 : decode cX12_done 13 = .ok (.aload_n 0, 1) := by decide +kernel
theorem dX12_done_14 : decode cX12_done 14 = .ok (.getfield 82, 3) := by decide +kernel
theorem dX12_done_17 : decode cX12_done 17 = .ok (.invokevirtual 76, 3) := by decide +kernel
theorem dX12_done_20 : decode cX12_done 20 = .ok (.ireturn, 1) := by decide +kernel
theorem dX12_setPriority_0 : decode cX12_setPriority 0 = .ok (.aload_n 0, 1) := by decide +kernel
theorem dX12_setPriority_1 : decode cX12_setPriority 1 = .ok (.invokevirtual 73, 3) := by decide +kernel
theorem dX12_setPriority_4 : decode cX12_setPriority 4 = .ok (.aload_n 0, 1) := by decide +kernel
theorem dX12_setPriority_5 : decode cX12_setPriority 5 = .ok (.aload_n 0, 1) := by decide +kernel
theorem dX12_setPriority_6 : decode cX12_setPriority 6 = .ok (.iload_n 1, 1) := by decide +kernel
theorem dX12_setPriority_7 : decode cX12_setPriority 7 = .ok (.iload_n 2, 1) := by decide +kernel
theorem dX12_setPriority_8 : decode cX12_setPriority 8 = .ok (.invokevirtual 101, 3) := by decide +kernel
theorem dX12_setPriority_11 : decode cX12_setPriority 11 = .ok (.invokevirtual 104, 3) := by decide +kernel
theorem dX12_setPriority_14 : decode cX12_setPriority 14 = .ok (.ireturn, 1) := by decide +kernel
theorem dX12_addLink_0 : decode cX12_addLink 0 = .ok (.aload_n 0, 1) := by decide +kernel
theorem dX12_addLink_1 : decode cX12_addLink 1 = .ok (.invokevirtual 73, 3) := by decide +kernel
theorem dX12_addLink_4 : decode cX12_addLink 4 = .ok (.aload_n 0, 1) := by decide +kernel
theorem dX12_addLink_5 : decode cX12_addLink 5 = .ok (.aload_n 0, 1) := by decide +kernel
theorem dX12_addLink_6 : decode cX12_addLink 6 = .ok (.iload_n 1, 1) := by decide +kernel
theorem dX12_addLink_7 : decode cX12_addLink 7 = .ok (.iload_n 2, 1) := by decide +kernel
theorem dX12_addLink_8 : decode cX12_addLink 8 = .ok (.iload_n 3, 1) := by decide +kernel
theorem dX12_addLink_9 : decode cX12_addLink 9 = .ok (.invokevirtual 107, 3) := by decide +kernel
theorem dX12_addLink_12 : decode cX12_addLink 12 = .ok (.invokevirtual 104, 3) := by decide +kernel
theorem dX12_addLink_15 : decode cX12_addLink 15 = .ok (.ireturn, 1) := by decide +kernel
theorem dX12_fail_0 : decode cX12_fail 0 = .ok (.aload_n 0, 1) := by decide +kernel
theorem dX12_fail_1 : decode cX12_fail 1 = .ok (.invokevirtual 73, 3) := by decide +kernel
theorem dX12_fail_4 : decode cX12_fail 4 = .ok (.aload_n 0, 1) := by decide +kernel
theorem dX12_fail_5 : decode cX12_fail 5 = .ok (.aload_n 0, 1) := by decide +kernel
theorem dX12_fail_6 : decode cX12_fail 6 = .ok (.iload_n 1, 1) := by decide +kernel
theorem dX12_fail_7 : decode cX12_fail 7 = .ok (.invokevirtual 111, 3) := by decide +kernel
theorem dX12_fail_10 : decode cX12_fail 10 = .ok (.invokevirtual 104, 3) := by decide +kernel
theorem dX12_fail_13 : decode cX12_fail 13 = .ok (.ireturn, 1) := by decide +kernel
theorem dX12_fix_0 : decode cX12_fix 0 = .ok (.aload_n 0, 1) := by decide +kernel
theorem dX12_fix_1 : decode cX12_fix 1 = .ok (.invokevirtual 73, 3) := by decide +kernel
theorem dX12_fix_4 : decode cX12_fix 4 = .ok (.aload_n 0, 1) := by decide +kernel
theorem dX12_fix_5 : decode cX12_fix 5 = .ok (.aload_n 0, 1) := by decide +kernel
theorem dX12_fix_6 : decode cX12_fix 6 = .ok (.iload_n 1, 1) := by decide +kernel
theorem dX12_fix_7 : decode cX12_fix 7 = .ok (.invokevirtual 114, 3) := by decide +kernel
theorem dX12_fix_10 : decode cX12_fix 10 = .ok (.invokevirtual 104, 3) := by decide +kernel
theorem dX12_fix_13 : decode cX12_fix 13 = .ok (.ireturn, 1) := by decide +kernel
theorem dX12_moveHost_0 : decode cX12_moveHost 0 = .ok (.aload_n 0, 1) := by decide +kernel
theorem dX12_moveHost_1 : decode cX12_moveHost 1 = .ok (.invokevirtual 73, 3) := by decide +kernel
theorem dX12_moveHost_4 : decode cX12_moveHost 4 = .ok (.aload_n 0, 1) := by decide +kernel
theorem dX12_moveHost_5 : decode cX12_moveHost 5 = .ok (.aload_n 0, 1) := by decide +kernel
theorem dX12_moveHost_6 : decode cX12_moveHost 6 = .ok (.iload_n 1, 1) := by decide +kernel
theorem dX12_moveHost_7 : decode cX12_moveHost 7 = .ok (.iload_n 2, 1) := by decide +kernel
theorem dX12_moveHost_8 : decode cX12_moveHost 8 = .ok (.invokevirtual 117, 3) := by decide +kernel
theorem dX12_moveHost_11 : decode cX12_moveHost 11 = .ok (.invokevirtual 104, 3) := by decide +kernel
theorem dX12_moveHost_14 : decode cX12_moveHost 14 = .ok (.ireturn, 1) := by decide +kernel
theorem dX12_bid_0 : decode cX12_bid 0 = .ok (.aload_n 0, 1) := by decide +kernel
theorem dX12_bid_1 : decode cX12_bid 1 = .ok (.invokevirtual 73, 3) := by decide +kernel
theorem dX12_bid_4 : decode cX12_bid 4 = .ok (.aload_n 0, 1) := by decide +kernel
theorem dX12_bid_5 : decode cX12_bid 5 = .ok (.aload_n 0, 1) := by decide +kernel
theorem dX12_bid_6 : decode cX12_bid 6 = .ok (.iload_n 1, 1) := by decide +kernel
theorem dX12_bid_7 : decode cX12_bid 7 = .ok (.iload_n 2, 1) := by decide +kernel
theorem dX12_bid_8 : decode cX12_bid 8 = .ok (.iload_n 3, 1) := by decide +kernel
theorem dX12_bid_9 : decode cX12_bid 9 = .ok (.invokevirtual 120, 3) := by decide +kernel
theorem dX12_bid_12 : decode cX12_bid 12 = .ok (.invokevirtual 104, 3) := by decide +kernel
theorem dX12_bid_15 : decode cX12_bid 15 = .ok (.ireturn, 1) := by decide +kernel
theorem dX12_grant_0 : decode cX12_grant 0 = .ok (.iload_n 1, 1) := by decide +kernel
theorem dX12_grant_1 : decode cX12_grant 1 = .ok (.invokestatic 95, 3) := by decide +kernel
theorem dX12_grant_4 : decode cX12_grant 4 = .ok (.ifCond .ne 9, 3) := by decide +kernel
theorem dX12_grant_7 : decode cX12_grant 7 = .ok (.aload_n 0, 1) := by decide +kernel
theorem dX12_grant_8 : decode cX12_grant 8 = .ok (.iconst 1, 1) := by decide +kernel
theorem dX12_grant_9 : decode cX12_grant 9 = .ok (.invokevirtual 70, 3) := by decide +kernel
theorem dX12_grant_12 : decode cX12_grant 12 = .ok (.ireturn, 1) := by decide +kernel
theorem dX12_grant_13 : decode cX12_grant 13 = .ok (.iload_n 2, 1) := by decide +kernel
theorem dX12_grant_14 : decode cX12_grant 14 = .ok (.iconst 0, 1) := by decide +kernel
theorem dX12_grant_15 : decode cX12_grant 15 = .ok (.sipush 10000, 3) := by decide +kernel
theorem dX12_grant_18 : decode cX12_grant 18 = .ok (.invokestatic 49, 3) := by decide +kernel
theorem dX12_grant_21 : decode cX12_grant 21 = .ok (.ifCond .ne 9, 3) := by decide +kernel
theorem dX12_grant_24 : decode cX12_grant 24 = .ok (.aload_n 0, 1) := by decide +kernel
theorem dX12_grant_25 : decode cX12_grant 25 = .ok (.iconst 2, 1) := by decide +kernel
theorem dX12_grant_26 : decode cX12_grant 26 = .ok (.invokevirtual 70, 3) := by decide +kernel
theorem dX12_grant_29 : decode cX12_grant 29 = .ok (.ireturn, 1) := by decide +kernel
theorem dX12_grant_30 : decode cX12_grant 30 = .ok (.aload_n 0, 1) := by decide +kernel
theorem dX12_grant_31 : decode cX12_grant 31 = .ok (.getfield 7, 3) := by decide +kernel
theorem dX12_grant_34 : decode cX12_grant 34 = .ok (.sipush 187, 3) := by decide +kernel
theorem dX12_grant_37 : decode cX12_grant 37 = .ok (.iconst 3, 1) := by decide +kernel
theorem dX12_grant_38 : decode cX12_grant 38 = .ok (.iload_n 1, 1) := by decide +kernel
theorem dX12_grant_39 : decode cX12_grant 39 = .ok (.imul, 1) := by decide +kernel
theorem dX12_grant_40 : decode cX12_grant 40 = .ok (.iadd, 1) := by decide +kernel
theorem dX12_grant_41 : decode cX12_grant 41 = .ok (.iaload, 1) := by decide +kernel
theorem dX12_grant_42 : decode cX12_grant 42 = .ok (.iload_n 2, 1) := by decide +kernel
theorem dX12_grant_43 : decode cX12_grant 43 = .ok (.iadd, 1) := by decide +kernel
theorem dX12_grant_44 : decode cX12_grant 44 = .ok (.ldc 123, 2) := by decide +kernel
theorem dX12_grant_46 : decode cX12_grant 46 = .ok (.if_icmp .le 9, 3) := by decide +kernel
theorem dX12_grant_49 : decode cX12_grant 49 = .ok (.aload_n 0, 1) := by decide +kernel
theorem dX12_grant_50 : decode cX12_grant 50 = .ok (.iconst 3, 1) := by decide +kernel
theorem dX12_grant_51 : decode cX12_grant 51 = .ok (.invokevirtual 70, 3) := by decide +kernel
theorem dX12_grant_54 : decode cX12_grant 54 = .ok (.ireturn, 1) := by decide +kernel
theorem dX12_grant_55 : decode cX12_grant 55 = .ok (.aload_n 0, 1) := by decide +kernel
theorem dX12_grant_56 : decode cX12_grant 56 = .ok (.invokevirtual 73, 3) := by decide +kernel
theorem dX12_grant_59 : decode cX12_grant 59 = .ok (.aload_n 0, 1) := by decide +kernel
theorem dX12_grant_60 : decode cX12_grant 60 = .ok (.getfield 7, 3) := by decide +kernel
theorem dX12_grant_63 : decode cX12_grant 63 = .ok (.sipush 187, 3) := by decide +kernel
theorem dX12_grant_66 : decode cX12_grant 66 = .ok (.iconst 3, 1) := by decide +kernel
theorem dX12_grant_67 : decode cX12_grant 67 = .ok (.iload_n 1, 1) := by decide +kernel
theorem dX12_grant_68 : decode cX12_grant 68 = .ok (.imul, 1) := by decide +kernel
theorem dX12_grant_69 : decode cX12_grant 69 = .ok (.iadd, 1) := by decide +kernel
theorem dX12_grant_70 : decode cX12_grant 70 = .ok (.dup2, 1) := by decide +kernel
theorem dX12_grant_71 : decode cX12_grant 71 = .ok (.iaload, 1) := by decide +kernel
theorem dX12_grant_72 : decode cX12_grant 72 = .ok (.iload_n 2, 1) := by decide +kernel
theorem dX12_grant_73 : decode cX12_grant 73 = .ok (.iadd, 1) := by decide +kernel
theorem dX12_grant_74 : decode cX12_grant 74 = .ok (.iastore, 1) := by decide +kernel
theorem dX12_grant_75 : decode cX12_grant 75 = .ok (.aload_n 0, 1) := by decide +kernel
theorem dX12_grant_76 : decode cX12_grant 76 = .ok (.aload_n 0, 1) := by decide +kernel
theorem dX12_grant_77 : decode cX12_grant 77 = .ok (.getfield 7, 3) := by decide +kernel
theorem dX12_grant_80 : decode cX12_grant 80 = .ok (.sipush 187, 3) := by decide +kernel
theorem dX12_grant_83 : decode cX12_grant 83 = .ok (.iconst 3, 1) := by decide +kernel
theorem dX12_grant_84 : decode cX12_grant 84 = .ok (.iload_n 1, 1) := by decide +kernel
theorem dX12_grant_85 : decode cX12_grant 85 = .ok (.imul, 1) := by decide +kernel
theorem dX12_grant_86 : decode cX12_grant 86 = .ok (.iadd, 1) := by decide +kernel
theorem dX12_grant_87 : decode cX12_grant 87 = .ok (.iaload, 1) := by decide +kernel
theorem dX12_grant_88 : decode cX12_grant 88 = .ok (.invokevirtual 76, 3) := by decide +kernel
theorem dX12_grant_91 : decode cX12_grant 91 = .ok (.ireturn, 1) := by decide +kernel
theorem dX12_tick_0 : decode cX12_tick 0 = .ok (.aload_n 0, 1) := by decide +kernel
theorem dX12_tick_1 : decode cX12_tick 1 = .ok (.invokevirtual 73, 3) := by decide +kernel
theorem dX12_tick_4 : decode cX12_tick 4 = .ok (.aload_n 0, 1) := by decide +kernel
theorem dX12_tick_5 : decode cX12_tick 5 = .ok (.aload_n 0, 1) := by decide +kernel
theorem dX12_tick_6 : decode cX12_tick 6 = .ok (.iload_n 1, 1) := by decide +kernel
theorem dX12_tick_7 : decode cX12_tick 7 = .ok (.invokevirtual 124, 3) := by decide +kernel
theorem dX12_tick_10 : decode cX12_tick 10 = .ok (.invokevirtual 104, 3) := by decide +kernel
theorem dX12_tick_13 : decode cX12_tick 13 = .ok (.ireturn, 1) := by decide +kernel
theorem dX12_time_0 : decode cX12_time 0 = .ok (.aload_n 0, 1) := by decide +kernel
theorem dX12_time_1 : decode cX12_time 1 = .ok (.aload_n 0, 1) := by decide +kernel
theorem dX12_time_2 : decode cX12_time 2 = .ok (.getfield 7, 3) := by decide +kernel
theorem dX12_time_5 : decode cX12_time 5 = .ok (.iconst 1, 1) := by decide +kernel
theorem dX12_time_6 : decode cX12_time 6 = .ok (.iaload, 1) := by decide +kernel
theorem dX12_time_7 : decode cX12_time 7 = .ok (.invokevirtual 45, 3) := by decide +kernel
theorem dX12_time_10 : decode cX12_time 10 = .ok (.ireturn, 1) := by decide +kernel
theorem dX12_ticksOnce_0 : decode cX12_ticksOnce 0 = .ok (.aload_n 0, 1) := by decide +kernel
theorem dX12_ticksOnce_1 : decode cX12_ticksOnce 1 = .ok (.getfield 7, 3) := by decide +kernel
theorem dX12_ticksOnce_4 : decode cX12_ticksOnce 4 = .ok (.iconst 1, 1) := by decide +kernel
theorem dX12_ticksOnce_5 : decode cX12_ticksOnce 5 = .ok (.dup2, 1) := by decide +kernel
theorem dX12_ticksOnce_6 : decode cX12_ticksOnce 6 = .ok (.iaload, 1) := by decide +kernel
theorem dX12_ticksOnce_7 : decode cX12_ticksOnce 7 = .ok (.iconst 1, 1) := by decide +kernel
theorem dX12_ticksOnce_8 : decode cX12_ticksOnce 8 = .ok (.iadd, 1) := by decide +kernel
theorem dX12_ticksOnce_9 : decode cX12_ticksOnce 9 = .ok (.iastore, 1) := by decide +kernel
theorem dX12_ticksOnce_10 : decode cX12_ticksOnce 10 = .ok (.aload_n 0, 1) := by decide +kernel
theorem dX12_ticksOnce_11 : decode cX12_ticksOnce 11 = .ok (.getfield 7, 3) := by decide +kernel
theorem dX12_ticksOnce_14 : decode cX12_ticksOnce 14 = .ok (.iconst 1, 1) := by decide +kernel
theorem dX12_ticksOnce_15 : decode cX12_ticksOnce 15 = .ok (.iaload, 1) := by decide +kernel
theorem dX12_ticksOnce_16 : decode cX12_ticksOnce 16 = .ok (.aload_n 0, 1) := by decide +kernel
theorem dX12_ticksOnce_17 : decode cX12_ticksOnce 17 = .ok (.getfield 7, 3) := by decide +kernel
theorem dX12_ticksOnce_20 : decode cX12_ticksOnce 20 = .ok (.iconst 3, 1) := by decide +kernel
theorem dX12_ticksOnce_21 : decode cX12_ticksOnce 21 = .ok (.iaload, 1) := by decide +kernel
theorem dX12_ticksOnce_22 : decode cX12_ticksOnce 22 = .ok (.irem, 1) := by decide +kernel
theorem dX12_ticksOnce_23 : decode cX12_ticksOnce 23 = .ok (.ifCond .ne 7, 3) := by decide +kernel
theorem dX12_ticksOnce_26 : decode cX12_ticksOnce 26 = .ok (.aload_n 0, 1) := by decide +kernel
theorem dX12_ticksOnce_27 : decode cX12_ticksOnce 27 = .ok (.invokevirtual 127, 3) := by decide +kernel
theorem dX12_ticksOnce_30 : decode cX12_ticksOnce 30 = .ok (.aload_n 0, 1) := by decide +kernel
theorem dX12_ticksOnce_31 : decode cX12_ticksOnce 31 = .ok (.invokevirtual 130, 3) := by decide +kernel
theorem dX12_ticksOnce_34 : decode cX12_ticksOnce 34 = .ok (.aload_n 0, 1) := by decide +kernel
theorem dX12_ticksOnce_35 : decode cX12_ticksOnce 35 = .ok (.invokevirtual 133, 3) := by decide +kernel
theorem dX12_ticksOnce_38 : decode cX12_ticksOnce 38 = .ok (.return_, 1) := by decide +kernel
theorem dX12_counts_0 : decode cX12_counts 0 = .ok (.aload_n 0, 1) := by decide +kernel
theorem dX12_counts_1 : decode cX12_counts 1 = .ok (.iload_n 2, 1) := by decide +kernel
theorem dX12_counts_2 : decode cX12_counts 2 = .ok (.bipush 14, 2) := by decide +kernel
theorem dX12_counts_4 : decode cX12_counts 4 = .ok (.iload_n 1, 1) := by decide +kernel
theorem dX12_counts_5 : decode cX12_counts 5 = .ok (.iadd, 1) := by decide +kernel
theorem dX12_counts_6 : decode cX12_counts 6 = .ok (.invokevirtual 62, 3) := by decide +kernel
theorem dX12_counts_9 : decode cX12_counts 9 = .ok (.istore_n 3, 1) := by decide +kernel
theorem dX12_counts_10 : decode cX12_counts 10 = .ok (.iload_n 3, 1) := by decide +kernel
theorem dX12_counts_11 : decode cX12_counts 11 = .ok (.ifCond .le 23, 3) := by decide +kernel
theorem dX12_counts_14 : decode cX12_counts 14 = .ok (.iload_n 3, 1) := by decide +kernel
theorem dX12_counts_15 : decode cX12_counts 15 = .ok (.aload_n 0, 1) := by decide +kernel
theorem dX12_counts_16 : decode cX12_counts 16 = .ok (.getfield 7, 3) := by decide +kernel
theorem dX12_counts_19 : decode cX12_counts 19 = .ok (.sipush 187, 3) := by decide +kernel
theorem dX12_counts_22 : decode cX12_counts 22 = .ok (.iconst 3, 1) := by decide +kernel
theorem dX12_counts_23 : decode cX12_counts 23 = .ok (.iload_n 1, 1) := by decide +kernel
theorem dX12_counts_24 : decode cX12_counts 24 = .ok (.imul, 1) := by decide +kernel
theorem dX12_counts_25 : decode cX12_counts 25 = .ok (.iadd, 1) := by decide +kernel
theorem dX12_counts_26 : decode cX12_counts 26 = .ok (.iaload, 1) := by decide +kernel
theorem dX12_counts_27 : decode cX12_counts 27 = .ok (.if_icmp .gt 7, 3) := by decide +kernel
theorem dX12_counts_30 : decode cX12_counts 30 = .ok (.iconst 1, 1) := by decide +kernel
theorem dX12_counts_31 : decode cX12_counts 31 = .ok (.goto 4, 3) := by decide +kernel
theorem dX12_counts_34 : decode cX12_counts 34 = .ok (.iconst 0, 1) := by decide +kernel
theorem dX12_counts_35 : decode cX12_counts 35 = .ok (.ireturn, 1) := by decide +kernel
theorem dX12_greatest_0 : decode cX12_greatest 0 = .ok (.iconst (-1), 1) := by decide +kernel
theorem dX12_greatest_1 : decode cX12_greatest 1 = .ok (.istore_n 3, 1) := by decide +kernel
theorem dX12_greatest_2 : decode cX12_greatest 2 = .ok (.iconst 0, 1) := by decide +kernel
theorem dX12_greatest_3 : decode cX12_greatest 3 = .ok (.istore 4, 2) := by decide +kernel
theorem dX12_greatest_5 : decode cX12_greatest 5 = .ok (.iload 4, 2) := by decide +kernel
theorem dX12_greatest_7 : decode cX12_greatest 7 = .ok (.iconst 4, 1) := by decide +kernel
theorem dX12_greatest_8 : decode cX12_greatest 8 = .ok (.if_icmp .ge 59, 3) := by decide +kernel
theorem dX12_greatest_11 : decode cX12_greatest 11 = .ok (.iload 4, 2) := by decide +kernel
theorem dX12_greatest_13 : decode cX12_greatest 13 = .ok (.iload_n 2, 1) := by decide +kernel
theorem dX12_greatest_14 : decode cX12_greatest 14 = .ok (.if_icmp .eq 45, 3) := by decide +kernel
theorem dX12_greatest_17 : decode cX12_greatest 17 = .ok (.aload_n 0, 1) := by decide +kernel
theorem dX12_greatest_18 : decode cX12_greatest 18 = .ok (.iload 4, 2) := by decide +kernel
theorem dX12_greatest_20 : decode cX12_greatest 20 = .ok (.iload_n 1, 1) := by decide +kernel
theorem dX12_greatest_21 : decode cX12_greatest 21 = .ok (.invokevirtual 136, 3) := by decide +kernel
theorem dX12_greatest_24 : decode cX12_greatest 24 = .ok (.ifCond .eq 35, 3) := by decide +kernel
theorem dX12_greatest_27 : decode cX12_greatest 27 = .ok (.iload_n 3, 1) := by decide +kernel
theorem dX12_greatest_28 : decode cX12_greatest 28 = .ok (.iconst (-1), 1) := by decide +kernel
theorem dX12_greatest_29 : decode cX12_greatest 29 = .ok (.if_icmp .eq 25, 3) := by decide +kernel
theorem dX12_greatest_32 : decode cX12_greatest 32 = .ok (.aload_n 0, 1) := by decide +kernel
theorem dX12_greatest_33 : decode cX12_greatest 33 = .ok (.iload_n 1, 1) := by decide +kernel
theorem dX12_greatest_34 : decode cX12_greatest 34 = .ok (.bipush 14, 2) := by decide +kernel
theorem dX12_greatest_36 : decode cX12_greatest 36 = .ok (.iload 4, 2) := by decide +kernel
theorem dX12_greatest_38 : decode cX12_greatest 38 = .ok (.iadd, 1) := by decide +kernel
theorem dX12_greatest_39 : decode cX12_greatest 39 = .ok (.invokevirtual 62, 3) := by decide +kernel
theorem dX12_greatest_42 : decode cX12_greatest 42 = .ok (.aload_n 0, 1) := by decide +kernel
theorem dX12_greatest_43 : decode cX12_greatest 43 = .ok (.iload_n 1, 1) := by decide +kernel
theorem dX12_greatest_44 : decode cX12_greatest 44 = .ok (.bipush 14, 2) := by decide +kernel
theorem dX12_greatest_46 : decode cX12_greatest 46 = .ok (.iload_n 3, 1) := by decide +kernel
theorem dX12_greatest_47 : decode cX12_greatest 47 = .ok (.iadd, 1) := by decide +kernel
theorem dX12_greatest_48 : decode cX12_greatest 48 = .ok (.invokevirtual 62, 3) := by decide +kernel
theorem dX12_greatest_51 : decode cX12_greatest 51 = .ok (.if_icmp .le 8, 3) := by decide +kernel
theorem dX12_greatest_54 : decode cX12_greatest 54 = .ok (.iload 4, 2) := by decide +kernel
theorem dX12_greatest_56 : decode cX12_greatest 56 = .ok (.goto 4, 3) := by decide +kernel
theorem dX12_greatest_59 : decode cX12_greatest 59 = .ok (.iload_n 3, 1) := by decide +kernel
theorem dX12_greatest_60 : decode cX12_greatest 60 = .ok (.istore_n 3, 1) := by decide +kernel
theorem dX12_greatest_61 : decode cX12_greatest 61 = .ok (.iinc 4 1, 3) := by decide +kernel
theorem dX12_greatest_64 : decode cX12_greatest 64 = .ok (.goto (-59), 3) := by decide +kernel
theorem dX12_greatest_67 : decode cX12_greatest 67 = .ok (.iload_n 3, 1) := by decide +kernel
theorem dX12_greatest_68 : decode cX12_greatest 68 = .ok (.ireturn, 1) := by decide +kernel
theorem dX12_sells_0 : decode cX12_sells 0 = .ok (.aload_n 0, 1) := by decide +kernel
theorem dX12_sells_1 : decode cX12_sells 1 = .ok (.iload_n 1, 1) := by decide +kernel
theorem dX12_sells_2 : decode cX12_sells 2 = .ok (.iconst 4, 1) := by decide +kernel
theorem dX12_sells_3 : decode cX12_sells 3 = .ok (.invokevirtual 62, 3) := by decide +kernel
theorem dX12_sells_6 : decode cX12_sells 6 = .ok (.iconst 1, 1) := by decide +kernel
theorem dX12_sells_7 : decode cX12_sells 7 = .ok (.if_icmp .ne 12, 3) := by decide +kernel
theorem dX12_sells_10 : decode cX12_sells 10 = .ok (.aload_n 0, 1) := by decide +kernel
theorem dX12_sells_11 : decode cX12_sells 11 = .ok (.iload_n 1, 1) := by decide +kernel
theorem dX12_sells_12 : decode cX12_sells 12 = .ok (.iconst (-1), 1) := by decide +kernel
theorem dX12_sells_13 : decode cX12_sells 13 = .ok (.invokevirtual 140, 3) := by decide +kernel
theorem dX12_sells_16 : decode cX12_sells 16 = .ok (.goto 4, 3) := by decide +kernel
theorem dX12_sells_19 : decode cX12_sells 19 = .ok (.iconst (-1), 1) := by decide +kernel
theorem dX12_sells_20 : decode cX12_sells 20 = .ok (.istore_n 2, 1) := by decide +kernel
theorem dX12_sells_21 : decode cX12_sells 21 = .ok (.iload_n 2, 1) := by decide +kernel
theorem dX12_sells_22 : decode cX12_sells 22 = .ok (.iconst (-1), 1) := by decide +kernel
theorem dX12_sells_23 : decode cX12_sells 23 = .ok (.if_icmp .ne 7, 3) := by decide +kernel
theorem dX12_sells_26 : decode cX12_sells 26 = .ok (.iconst (-1), 1) := by decide +kernel
theorem dX12_sells_27 : decode cX12_sells 27 = .ok (.goto 9, 3) := by decide +kernel
theorem dX12_sells_30 : decode cX12_sells 30 = .ok (.aload_n 0, 1) := by decide +kernel
theorem dX12_sells_31 : decode cX12_sells 31 = .ok (.iload_n 1, 1) := by decide +kernel
theorem dX12_sells_32 : decode cX12_sells 32 = .ok (.iload_n 2, 1) := by decide +kernel
theorem dX12_sells_33 : decode cX12_sells 33 = .ok (.invokevirtual 140, 3) := by decide +kernel
theorem dX12_sells_36 : decode cX12_sells 36 = .ok (.istore_n 3, 1) := by decide +kernel
theorem dX12_sells_37 : decode cX12_sells 37 = .ok (.iload_n 2, 1) := by decide +kernel
theorem dX12_sells_38 : decode cX12_sells 38 = .ok (.iconst (-1), 1) := by decide +kernel
theorem dX12_sells_39 : decode cX12_sells 39 = .ok (.if_icmp .ne 7, 3) := by decide +kernel
theorem dX12_sells_42 : decode cX12_sells 42 = .ok (.iconst 0, 1) := by decide +kernel
theorem dX12_sells_43 : decode cX12_sells 43 = .ok (.goto 21, 3) := by decide +kernel
theorem dX12_sells_46 : decode cX12_sells 46 = .ok (.iload_n 3, 1) := by decide +kernel
theorem dX12_sells_47 : decode cX12_sells 47 = .ok (.iconst (-1), 1) := by decide +kernel
theorem dX12_sells_48 : decode cX12_sells 48 = .ok (.if_icmp .ne 7, 3) := by decide +kernel
theorem dX12_sells_51 : decode cX12_sells 51 = .ok (.iconst 1, 1) := by decide +kernel
theorem dX12_sells_52 : decode cX12_sells 52 = .ok (.goto 12, 3) := by decide +kernel
theorem dX12_sells_55 : decode cX12_sells 55 = .ok (.aload_n 0, 1) := by decide +kernel
theorem dX12_sells_56 : decode cX12_sells 56 = .ok (.iload_n 1, 1) := by decide +kernel
theorem dX12_sells_57 : decode cX12_sells 57 = .ok (.bipush 14, 2) := by decide +kernel
theorem dX12_sells_59 : decode cX12_sells 59 = .ok (.iload_n 3, 1) := by decide +kernel
theorem dX12_sells_60 : decode cX12_sells 60 = .ok (.iadd, 1) := by decide +kernel
theorem dX12_sells_61 : decode cX12_sells 61 = .ok (.invokevirtual 62, 3) := by decide +kernel
theorem dX12_sells_64 : decode cX12_sells 64 = .ok (.istore 4, 2) := by decide +kernel
theorem dX12_sells_66 : decode cX12_sells 66 = .ok (.aload_n 0, 1) := by decide +kernel
theorem dX12_sells_67 : decode cX12_sells 67 = .ok (.iload_n 1, 1) := by decide +kernel
theorem dX12_sells_68 : decode cX12_sells 68 = .ok (.iconst 5, 1) := by decide +kernel
theorem dX12_sells_69 : decode cX12_sells 69 = .ok (.iload_n 2, 1) := by decide +kernel
theorem dX12_sells_70 : decode cX12_sells 70 = .ok (.invokevirtual 85, 3) := by decide +kernel
theorem dX12_sells_73 : decode cX12_sells 73 = .ok (.aload_n 0, 1) := by decide +kernel
theorem dX12_sells_74 : decode cX12_sells 74 = .ok (.iload_n 1, 1) := by decide +kernel
theorem dX12_sells_75 : decode cX12_sells 75 = .ok (.bipush 6, 2) := by decide +kernel
theorem dX12_sells_77 : decode cX12_sells 77 = .ok (.iload 4, 2) := by decide +kernel
theorem dX12_sells_79 : decode cX12_sells 79 = .ok (.invokevirtual 85, 3) := by decide +kernel
theorem dX12_sells_82 : decode cX12_sells 82 = .ok (.iload_n 2, 1) := by decide +kernel
theorem dX12_sells_83 : decode cX12_sells 83 = .ok (.ifCond .lt 39, 3) := by decide +kernel
theorem dX12_sells_86 : decode cX12_sells 86 = .ok (.aload_n 0, 1) := by decide +kernel
theorem dX12_sells_87 : decode cX12_sells 87 = .ok (.getfield 7, 3) := by decide +kernel
theorem dX12_sells_90 : decode cX12_sells 90 = .ok (.sipush 187, 3) := by decide +kernel
theorem dX12_sells_93 : decode cX12_sells 93 = .ok (.iconst 3, 1) := by decide +kernel
theorem dX12_sells_94 : decode cX12_sells 94 = .ok (.iload_n 2, 1) := by decide +kernel
theorem dX12_sells_95 : decode cX12_sells 95 = .ok (.imul, 1) := by decide +kernel
theorem dX12_sells_96 : decode cX12_sells 96 = .ok (.iadd, 1) := by decide +kernel
theorem dX12_sells_97 : decode cX12_sells 97 = .ok (.dup2, 1) := by decide +kernel
theorem dX12_sells_98 : decode cX12_sells 98 = .ok (.iaload, 1) := by decide +kernel
theorem dX12_sells_99 : decode cX12_sells 99 = .ok (.iload 4, 2) := by decide +kernel
theorem dX12_sells_101 : decode cX12_sells 101 = .ok (.isub, 1) := by decide +kernel
theorem dX12_sells_102 : decode cX12_sells 102 = .ok (.iastore, 1) := by decide +kernel
theorem dX12_sells_103 : decode cX12_sells 103 = .ok (.aload_n 0, 1) := by decide +kernel
theorem dX12_sells_104 : decode cX12_sells 104 = .ok (.getfield 7, 3) := by decide +kernel
theorem dX12_sells_107 : decode cX12_sells 107 = .ok (.sipush 187, 3) := by decide +kernel
theorem dX12_sells_110 : decode cX12_sells 110 = .ok (.iconst 3, 1) := by decide +kernel
theorem dX12_sells_111 : decode cX12_sells 111 = .ok (.iload_n 2, 1) := by decide +kernel
theorem dX12_sells_112 : decode cX12_sells 112 = .ok (.imul, 1) := by decide +kernel
theorem dX12_sells_113 : decode cX12_sells 113 = .ok (.iadd, 1) := by decide +kernel
theorem dX12_sells_114 : decode cX12_sells 114 = .ok (.iconst 1, 1) := by decide +kernel
theorem dX12_sells_115 : decode cX12_sells 115 = .ok (.iadd, 1) := by decide +kernel
theorem dX12_sells_116 : decode cX12_sells 116 = .ok (.dup2, 1) := by decide +kernel
theorem dX12_sells_117 : decode cX12_sells 117 = .ok (.iaload, 1) := by decide +kernel
theorem dX12_sells_118 : decode cX12_sells 118 = .ok (.iload 4, 2) := by decide +kernel
theorem dX12_sells_120 : decode cX12_sells 120 = .ok (.iadd, 1) := by decide +kernel
theorem dX12_sells_121 : decode cX12_sells 121 = .ok (.iastore, 1) := by decide +kernel
theorem dX12_sells_122 : decode cX12_sells 122 = .ok (.aload_n 0, 1) := by decide +kernel
theorem dX12_sells_123 : decode cX12_sells 123 = .ok (.iload_n 1, 1) := by decide +kernel
theorem dX12_sells_124 : decode cX12_sells 124 = .ok (.iconst 2, 1) := by decide +kernel
theorem dX12_sells_125 : decode cX12_sells 125 = .ok (.invokevirtual 62, 3) := by decide +kernel
theorem dX12_sells_128 : decode cX12_sells 128 = .ok (.iload 4, 2) := by decide +kernel
theorem dX12_sells_130 : decode cX12_sells 130 = .ok (.iadd, 1) := by decide +kernel
theorem dX12_sells_131 : decode cX12_sells 131 = .ok (.aload_n 0, 1) := by decide +kernel
theorem dX12_sells_132 : decode cX12_sells 132 = .ok (.iload_n 1, 1) := by decide +kernel
theorem dX12_sells_133 : decode cX12_sells 133 = .ok (.iconst 3, 1) := by decide +kernel
theorem dX12_sells_134 : decode cX12_sells 134 = .ok (.invokevirtual 62, 3) := by decide +kernel
theorem dX12_sells_137 : decode cX12_sells 137 = .ok (.isub, 1) := by decide +kernel
theorem dX12_sells_138 : decode cX12_sells 138 = .ok (.istore 5, 2) := by decide +kernel
theorem dX12_sells_140 : decode cX12_sells 140 = .ok (.iload 5, 2) := by decide +kernel
theorem dX12_sells_142 : decode cX12_sells 142 = .ok (.ifCond .ne 7, 3) := by decide +kernel
theorem dX12_sells_145 : decode cX12_sells 145 = .ok (.iconst 0, 1) := by decide +kernel
theorem dX12_sells_146 : decode cX12_sells 146 = .ok (.goto 12, 3) := by decide +kernel
theorem dX12_sells_149 : decode cX12_sells 149 = .ok (.aload_n 0, 1) := by decide +kernel
theorem dX12_sells_150 : decode cX12_sells 150 = .ok (.iload_n 1, 1) := by decide +kernel
theorem dX12_sells_151 : decode cX12_sells 151 = .ok (.bipush 7, 2) := by decide +kernel
theorem dX12_sells_153 : decode cX12_sells 153 = .ok (.invokevirtual 62, 3) := by decide +kernel
theorem dX12_sells_156 : decode cX12_sells 156 = .ok (.iconst 1, 1) := by decide +kernel
theorem dX12_sells_157 : decode cX12_sells 157 = .ok (.iadd, 1) := by decide +kernel
theorem dX12_sells_158 : decode cX12_sells 158 = .ok (.istore 6, 2) := by decide +kernel
theorem dX12_sells_160 : decode cX12_sells 160 = .ok (.iload 5, 2) := by decide +kernel
theorem dX12_sells_162 : decode cX12_sells 162 = .ok (.aload_n 0, 1) := by decide +kernel
theorem dX12_sells_163 : decode cX12_sells 163 = .ok (.getfield 7, 3) := by decide +kernel
theorem dX12_sells_166 : decode cX12_sells 166 = .ok (.iconst 4, 1) := by decide +kernel
theorem dX12_sells_167 : decode cX12_sells 167 = .ok (.iaload, 1) := by decide +kernel
theorem dX12_sells_168 : decode cX12_sells 168 = .ok (.if_icmp .gt 21, 3) := by decide +kernel
theorem dX12_sells_171 : decode cX12_sells 171 = .ok (.iload 5, 2) := by decide +kernel
theorem dX12_sells_173 : decode cX12_sells 173 = .ok (.ineg, 1) := by decide +kernel
theorem dX12_sells_174 : decode cX12_sells 174 = .ok (.aload_n 0, 1) := by decide +kernel
theorem dX12_sells_175 : decode cX12_sells 175 = .ok (.getfield 7, 3) := by decide +kernel
theorem dX12_sells_178 : decode cX12_sells 178 = .ok (.iconst 4, 1) := by decide +kernel
theorem dX12_sells_179 : decode cX12_sells 179 = .ok (.iaload, 1) := by decide +kernel
theorem dX12_sells_180 : decode cX12_sells 180 = .ok (.if_icmp .gt 9, 3) := by decide +kernel
theorem dX12_sells_183 : decode cX12_sells 183 = .ok (.iload 6, 2) := by decide +kernel
theorem dX12_sells_185 : decode cX12_sells 185 = .ok (.iconst 3, 1) := by decide +kernel
theorem dX12_sells_186 : decode cX12_sells 186 = .ok (.if_icmp .ne 7, 3) := by decide +kernel
theorem dX12_sells_189 : decode cX12_sells 189 = .ok (.iconst 1, 1) := by decide +kernel
theorem dX12_sells_190 : decode cX12_sells 190 = .ok (.goto 4, 3) := by decide +kernel
theorem dX12_sells_193 : decode cX12_sells 193 = .ok (.iconst 0, 1) := by decide +kernel
theorem dX12_sells_194 : decode cX12_sells 194 = .ok (.istore 7, 2) := by decide +kernel
theorem dX12_sells_196 : decode cX12_sells 196 = .ok (.aload_n 0, 1) := by decide +kernel
theorem dX12_sells_197 : decode cX12_sells 197 = .ok (.iload_n 1, 1) := by decide +kernel
theorem dX12_sells_198 : decode cX12_sells 198 = .ok (.iconst 3, 1) := by decide +kernel
theorem dX12_sells_199 : decode cX12_sells 199 = .ok (.iload 7, 2) := by decide +kernel
theorem dX12_sells_201 : decode cX12_sells 201 = .ok (.ifCond .eq 15, 3) := by decide +kernel
theorem dX12_sells_204 : decode cX12_sells 204 = .ok (.aload_n 0, 1) := by decide +kernel
theorem dX12_sells_205 : decode cX12_sells 205 = .ok (.iload_n 1, 1) := by decide +kernel
theorem dX12_sells_206 : decode cX12_sells 206 = .ok (.iconst 2, 1) := by decide +kernel
theorem dX12_sells_207 : decode cX12_sells 207 = .ok (.invokevirtual 62, 3) := by decide +kernel
theorem dX12_sells_210 : decode cX12_sells 210 = .ok (.iload 4, 2) := by decide +kernel
theorem dX12_sells_212 : decode cX12_sells 212 = .ok (.iadd, 1) := by decide +kernel
theorem dX12_sells_213 : decode cX12_sells 213 = .ok (.goto 9, 3) := by decide +kernel
theorem dX12_sells_216 : decode cX12_sells 216 = .ok (.aload_n 0, 1) := by decide +kernel
theorem dX12_sells_217 : decode cX12_sells 217 = .ok (.iload_n 1, 1) := by decide +kernel
theorem dX12_sells_218 : decode cX12_sells 218 = .ok (.iconst 3, 1) := by decide +kernel
theorem dX12_sells_219 : decode cX12_sells 219 = .ok (.invokevirtual 62, 3) := by decide +kernel
theorem dX12_sells_222 : decode cX12_sells 222 = .ok (.invokevirtual 85, 3) := by decide +kernel
theorem dX12_sells_225 : decode cX12_sells 225 = .ok (.aload_n 0, 1) := by decide +kernel
theorem dX12_sells_226 : decode cX12_sells 226 = .ok (.iload_n 1, 1) := by decide +kernel
theorem dX12_sells_227 : decode cX12_sells 227 = .ok (.bipush 7, 2) := by decide +kernel
theorem dX12_sells_229 : decode cX12_sells 229 = .ok (.iload 7, 2) := by decide +kernel
theorem dX12_sells_231 : decode cX12_sells 231 = .ok (.ifCond .eq 7, 3) := by decide +kernel
theorem dX12_sells_234 : decode cX12_sells 234 = .ok (.iconst 0, 1) := by decide +kernel
theorem dX12_sells_235 : decode cX12_sells 235 = .ok (.goto 5, 3) := by decide +kernel
theorem dX12_sells_238 : decode cX12_sells 238 = .ok (.iload 6, 2) := by decide +kernel
theorem dX12_sells_240 : decode cX12_sells 240 = .ok (.invokevirtual 85, 3) := by decide +kernel
theorem dX12_sells_243 : decode cX12_sells 243 = .ok (.return_, 1) := by decide +kernel
theorem dX12_auctions_0 : decode cX12_auctions 0 = .ok (.aload_n 0, 1) := by decide +kernel
theorem dX12_auctions_1 : decode cX12_auctions 1 = .ok (.getfield 7, 3) := by decide +kernel
theorem dX12_auctions_4 : decode cX12_auctions 4 = .ok (.bipush 6, 2) := by decide +kernel
theorem dX12_auctions_6 : decode cX12_auctions 6 = .ok (.dup2, 1) := by decide +kernel
theorem dX12_auctions_7 : decode cX12_auctions 7 = .ok (.iaload, 1) := by decide +kernel
theorem dX12_auctions_8 : decode cX12_auctions 8 = .ok (.iconst 1, 1) := by decide +kernel
theorem dX12_auctions_9 : decode cX12_auctions 9 = .ok (.iadd, 1) := by decide +kernel
theorem dX12_auctions_10 : decode cX12_auctions 10 = .ok (.iastore, 1) := by decide +kernel
theorem dX12_auctions_11 : decode cX12_auctions 11 = .ok (.iconst 0, 1) := by decide +kernel
theorem dX12_auctions_12 : decode cX12_auctions 12 = .ok (.istore_n 1, 1) := by decide +kernel
theorem dX12_auctions_13 : decode cX12_auctions 13 = .ok (.iload_n 1, 1) := by decide +kernel
theorem dX12_auctions_14 : decode cX12_auctions 14 = .ok (.iconst 4, 1) := by decide +kernel
theorem dX12_auctions_15 : decode cX12_auctions 15 = .ok (.if_icmp .ge 42, 3) := by decide +kernel
theorem dX12_auctions_18 : decode cX12_auctions 18 = .ok (.aload_n 0, 1) := by decide +kernel
theorem dX12_auctions_19 : decode cX12_auctions 19 = .ok (.getfield 7, 3) := by decide +kernel
theorem dX12_auctions_22 : decode cX12_auctions 22 = .ok (.sipush 187, 3) := by decide +kernel
theorem dX12_auctions_25 : decode cX12_auctions 25 = .ok (.iconst 3, 1) := by decide +kernel
theorem dX12_auctions_26 : decode cX12_auctions 26 = .ok (.iload_n 1, 1) := by decide +kernel
theorem dX12_auctions_27 : decode cX12_auctions 27 = .ok (.imul, 1) := by decide +kernel
theorem dX12_auctions_28 : decode cX12_auctions 28 = .ok (.iadd, 1) := by decide +kernel
theorem dX12_auctions_29 : decode cX12_auctions 29 = .ok (.bipush 9, 2) := by decide +kernel
theorem dX12_auctions_31 : decode cX12_auctions 31 = .ok (.aload_n 0, 1) := by decide +kernel
theorem dX12_auctions_32 : decode cX12_auctions 32 = .ok (.getfield 7, 3) := by decide +kernel
theorem dX12_auctions_35 : decode cX12_auctions 35 = .ok (.sipush 187, 3) := by decide +kernel
theorem dX12_auctions_38 : decode cX12_auctions 38 = .ok (.iconst 3, 1) := by decide +kernel
theorem dX12_auctions_39 : decode cX12_auctions 39 = .ok (.iload_n 1, 1) := by decide +kernel
theorem dX12_auctions_40 : decode cX12_auctions 40 = .ok (.imul, 1) := by decide +kernel
theorem dX12_auctions_41 : decode cX12_auctions 41 = .ok (.iadd, 1) := by decide +kernel
theorem dX12_auctions_42 : decode cX12_auctions 42 = .ok (.iaload, 1) := by decide +kernel
theorem dX12_auctions_43 : decode cX12_auctions 43 = .ok (.imul, 1) := by decide +kernel
theorem dX12_auctions_44 : decode cX12_auctions 44 = .ok (.bipush 10, 2) := by decide +kernel
theorem dX12_auctions_46 : decode cX12_auctions 46 = .ok (.idiv, 1) := by decide +kernel
theorem dX12_auctions_47 : decode cX12_auctions 47 = .ok (.bipush 20, 2) := by decide +kernel
theorem dX12_auctions_49 : decode cX12_auctions 49 = .ok (.iadd, 1) := by decide +kernel
theorem dX12_auctions_50 : decode cX12_auctions 50 = .ok (.iastore, 1) := by decide +kernel
theorem dX12_auctions_51 : decode cX12_auctions 51 = .ok (.iinc 1 1, 3) := by decide +kernel
theorem dX12_auctions_54 : decode cX12_auctions 54 = .ok (.goto (-41), 3) := by decide +kernel
theorem dX12_auctions_57 : decode cX12_auctions 57 = .ok (.iconst 0, 1) := by decide +kernel
theorem dX12_auctions_58 : decode cX12_auctions 58 = .ok (.istore_n 1, 1) := by decide +kernel
theorem dX12_auctions_59 : decode cX12_auctions 59 = .ok (.iload_n 1, 1) := by decide +kernel
theorem dX12_auctions_60 : decode cX12_auctions 60 = .ok (.aload_n 0, 1) := by decide +kernel
theorem dX12_auctions_61 : decode cX12_auctions 61 = .ok (.getfield 7, 3) := by decide +kernel
theorem dX12_auctions_64 : decode cX12_auctions 64 = .ok (.iconst 5, 1) := by decide +kernel
theorem dX12_auctions_65 : decode cX12_auctions 65 = .ok (.iaload, 1) := by decide +kernel
theorem dX12_auctions_66 : decode cX12_auctions 66 = .ok (.if_icmp .ge 14, 3) := by decide +kernel
theorem dX12_auctions_69 : decode cX12_auctions 69 = .ok (.aload_n 0, 1) := by decide +kernel
theorem dX12_auctions_70 : decode cX12_auctions 70 = .ok (.iload_n 1, 1) := by decide +kernel
theorem dX12_auctions_71 : decode cX12_auctions 71 = .ok (.invokevirtual 143, 3) := by decide +kernel
theorem dX12_auctions_74 : decode cX12_auctions 74 = .ok (.iinc 1 1, 3) := by decide +kernel
theorem dX12_auctions_77 : decode cX12_auctions 77 = .ok (.goto (-18), 3) := by decide +kernel
theorem dX12_auctions_80 : decode cX12_auctions 80 = .ok (.return_, 1) := by decide +kernel
theorem dX12_finds_0 : decode cX12_finds 0 = .ok (.aload_n 0, 1) := by decide +kernel
theorem dX12_finds_1 : decode cX12_finds 1 = .ok (.iload_n 1, 1) := by decide +kernel
theorem dX12_finds_2 : decode cX12_finds 2 = .ok (.invokevirtual 53, 3) := by decide +kernel
theorem dX12_finds_5 : decode cX12_finds 5 = .ok (.istore_n 2, 1) := by decide +kernel
theorem dX12_finds_6 : decode cX12_finds 6 = .ok (.iconst 0, 1) := by decide +kernel
theorem dX12_finds_7 : decode cX12_finds 7 = .ok (.istore_n 3, 1) := by decide +kernel
theorem dX12_finds_8 : decode cX12_finds 8 = .ok (.iconst 0, 1) := by decide +kernel
theorem dX12_finds_9 : decode cX12_finds 9 = .ok (.istore 4, 2) := by decide +kernel
theorem dX12_finds_11 : decode cX12_finds 11 = .ok (.iconst (-1), 1) := by decide +kernel
theorem dX12_finds_12 : decode cX12_finds 12 = .ok (.istore 5, 2) := by decide +kernel
theorem dX12_finds_14 : decode cX12_finds 14 = .ok (.aload_n 0, 1) := by decide +kernel
theorem dX12_finds_15 : decode cX12_finds 15 = .ok (.iload_n 1, 1) := by decide +kernel
theorem dX12_finds_16 : decode cX12_finds 16 = .ok (.invokevirtual 53, 3) := by decide +kernel
theorem dX12_finds_19 : decode cX12_finds 19 = .ok (.istore 6, 2) := by decide +kernel
theorem dX12_finds_21 : decode cX12_finds 21 = .ok (.iconst 0, 1) := by decide +kernel
theorem dX12_finds_22 : decode cX12_finds 22 = .ok (.istore 7, 2) := by decide +kernel
theorem dX12_finds_24 : decode cX12_finds 24 = .ok (.iload 7, 2) := by decide +kernel
theorem dX12_finds_26 : decode cX12_finds 26 = .ok (.aload_n 0, 1) := by decide +kernel
theorem dX12_finds_27 : decode cX12_finds 27 = .ok (.getfield 7, 3) := by decide +kernel
theorem dX12_finds_30 : decode cX12_finds 30 = .ok (.iconst 5, 1) := by decide +kernel
theorem dX12_finds_31 : decode cX12_finds 31 = .ok (.iaload, 1) := by decide +kernel
theorem dX12_finds_32 : decode cX12_finds 32 = .ok (.if_icmp .ge 168, 3) := by decide +kernel
theorem dX12_finds_35 : decode cX12_finds 35 = .ok (.aload_n 0, 1) := by decide +kernel
theorem dX12_finds_36 : decode cX12_finds 36 = .ok (.iload 7, 2) := by decide +kernel
theorem dX12_finds_38 : decode cX12_finds 38 = .ok (.iload_n 1, 1) := by decide +kernel
theorem dX12_finds_39 : decode cX12_finds 39 = .ok (.invokevirtual 146, 3) := by decide +kernel
theorem dX12_finds_42 : decode cX12_finds 42 = .ok (.istore 8, 2) := by decide +kernel
theorem dX12_finds_44 : decode cX12_finds 44 = .ok (.bipush 11, 2) := by decide +kernel
theorem dX12_finds_46 : decode cX12_finds 46 = .ok (.iconst 5, 1) := by decide +kernel
theorem dX12_finds_47 : decode cX12_finds 47 = .ok (.iload 8, 2) := by decide +kernel
theorem dX12_finds_49 : decode cX12_finds 49 = .ok (.imul, 1) := by decide +kernel
theorem dX12_finds_50 : decode cX12_finds 50 = .ok (.iadd, 1) := by decide +kernel
theorem dX12_finds_51 : decode cX12_finds 51 = .ok (.istore 9, 2) := by decide +kernel
theorem dX12_finds_53 : decode cX12_finds 53 = .ok (.aload_n 0, 1) := by decide +kernel
theorem dX12_finds_54 : decode cX12_finds 54 = .ok (.iload 7, 2) := by decide +kernel
theorem dX12_finds_56 : decode cX12_finds 56 = .ok (.iload_n 1, 1) := by decide +kernel
theorem dX12_finds_57 : decode cX12_finds 57 = .ok (.invokevirtual 149, 3) := by decide +kernel
theorem dX12_finds_60 : decode cX12_finds 60 = .ok (.ifCond .eq 134, 3) := by decide +kernel
theorem dX12_finds_63 : decode cX12_finds 63 = .ok (.aload_n 0, 1) := by decide +kernel
theorem dX12_finds_64 : decode cX12_finds 64 = .ok (.iload 7, 2) := by decide +kernel
theorem dX12_finds_66 : decode cX12_finds 66 = .ok (.iconst 4, 1) := by decide +kernel
theorem dX12_finds_67 : decode cX12_finds 67 = .ok (.invokevirtual 62, 3) := by decide +kernel
theorem dX12_finds_70 : decode cX12_finds 70 = .ok (.iconst 1, 1) := by decide +kernel
theorem dX12_finds_71 : decode cX12_finds 71 = .ok (.if_icmp .ne 123, 3) := by decide +kernel
theorem dX12_finds_74 : decode cX12_finds 74 = .ok (.aload_n 0, 1) := by decide +kernel
theorem dX12_finds_75 : decode cX12_finds 75 = .ok (.getfield 7, 3) := by decide +kernel
theorem dX12_finds_78 : decode cX12_finds 78 = .ok (.iload 9, 2) := by decide +kernel
theorem dX12_finds_80 : decode cX12_finds 80 = .ok (.iconst 3, 1) := by decide +kernel
theorem dX12_finds_81 : decode cX12_finds 81 = .ok (.iadd, 1) := by decide +kernel
theorem dX12_finds_82 : decode cX12_finds 82 = .ok (.iaload, 1) := by decide +kernel
theorem dX12_finds_83 : decode cX12_finds 83 = .ok (.bipush 10, 2) := by decide +kernel
theorem dX12_finds_85 : decode cX12_finds 85 = .ok (.if_icmp .ge 109, 3) := by decide +kernel
theorem dX12_finds_88 : decode cX12_finds 88 = .ok (.aload_n 0, 1) := by decide +kernel
theorem dX12_finds_89 : decode cX12_finds 89 = .ok (.getfield 7, 3) := by decide +kernel
theorem dX12_finds_92 : decode cX12_finds 92 = .ok (.iload 9, 2) := by decide +kernel
theorem dX12_finds_94 : decode cX12_finds 94 = .ok (.iconst 2, 1) := by decide +kernel
theorem dX12_finds_95 : decode cX12_finds 95 = .ok (.iadd, 1) := by decide +kernel
theorem dX12_finds_96 : decode cX12_finds 96 = .ok (.iaload, 1) := by decide +kernel
theorem dX12_finds_97 : decode cX12_finds 97 = .ok (.aload_n 0, 1) := by decide +kernel
theorem dX12_finds_98 : decode cX12_finds 98 = .ok (.iload 7, 2) := by decide +kernel
theorem dX12_finds_100 : decode cX12_finds 100 = .ok (.iconst 3, 1) := by decide +kernel
theorem dX12_finds_101 : decode cX12_finds 101 = .ok (.invokevirtual 62, 3) := by decide +kernel
theorem dX12_finds_104 : decode cX12_finds 104 = .ok (.iadd, 1) := by decide +kernel
theorem dX12_finds_105 : decode cX12_finds 105 = .ok (.istore 10, 2) := by decide +kernel
theorem dX12_finds_107 : decode cX12_finds 107 = .ok (.aload_n 0, 1) := by decide +kernel
theorem dX12_finds_108 : decode cX12_finds 108 = .ok (.iload 8, 2) := by decide +kernel
theorem dX12_finds_110 : decode cX12_finds 110 = .ok (.invokevirtual 53, 3) := by decide +kernel
theorem dX12_finds_113 : decode cX12_finds 113 = .ok (.istore 11, 2) := by decide +kernel
theorem dX12_finds_115 : decode cX12_finds 115 = .ok (.aload_n 0, 1) := by decide +kernel
theorem dX12_finds_116 : decode cX12_finds 116 = .ok (.getfield 7, 3) := by decide +kernel
theorem dX12_finds_119 : decode cX12_finds 119 = .ok (.iload 9, 2) := by decide +kernel
theorem dX12_finds_121 : decode cX12_finds 121 = .ok (.iconst 1, 1) := by decide +kernel
theorem dX12_finds_122 : decode cX12_finds 122 = .ok (.iadd, 1) := by decide +kernel
theorem dX12_finds_123 : decode cX12_finds 123 = .ok (.iaload, 1) := by decide +kernel
theorem dX12_finds_124 : decode cX12_finds 124 = .ok (.iload_n 2, 1) := by decide +kernel
theorem dX12_finds_125 : decode cX12_finds 125 = .ok (.if_icmp .lt 35, 3) := by decide +kernel
theorem dX12_finds_128 : decode cX12_finds 128 = .ok (.aload_n 0, 1) := by decide +kernel
theorem dX12_finds_129 : decode cX12_finds 129 = .ok (.getfield 7, 3) := by decide +kernel
theorem dX12_finds_132 : decode cX12_finds 132 = .ok (.iload 9, 2) := by decide +kernel
theorem dX12_finds_134 : decode cX12_finds 134 = .ok (.iconst 1, 1) := by decide +kernel
theorem dX12_finds_135 : decode cX12_finds 135 = .ok (.iadd, 1) := by decide +kernel
theorem dX12_finds_136 : decode cX12_finds 136 = .ok (.iaload, 1) := by decide +kernel
theorem dX12_finds_137 : decode cX12_finds 137 = .ok (.iload_n 2, 1) := by decide +kernel
theorem dX12_finds_138 : decode cX12_finds 138 = .ok (.if_icmp .ne 56, 3) := by decide +kernel
theorem dX12_finds_141 : decode cX12_finds 141 = .ok (.iload 10, 2) := by decide +kernel
theorem dX12_finds_143 : decode cX12_finds 143 = .ok (.iload_n 3, 1) := by decide +kernel
theorem dX12_finds_144 : decode cX12_finds 144 = .ok (.if_icmp .lt 16, 3) := by decide +kernel
theorem dX12_finds_147 : decode cX12_finds 147 = .ok (.iload 10, 2) := by decide +kernel
theorem dX12_finds_149 : decode cX12_finds 149 = .ok (.iload_n 3, 1) := by decide +kernel
theorem dX12_finds_150 : decode cX12_finds 150 = .ok (.if_icmp .ne 44, 3) := by decide +kernel
theorem dX12_finds_153 : decode cX12_finds 153 = .ok (.iload 11, 2) := by decide +kernel
theorem dX12_finds_155 : decode cX12_finds 155 = .ok (.iload 6, 2) := by decide +kernel
theorem dX12_finds_157 : decode cX12_finds 157 = .ok (.if_icmp .ge 37, 3) := by decide +kernel
theorem dX12_finds_160 : decode cX12_finds 160 = .ok (.aload_n 0, 1) := by decide +kernel
theorem dX12_finds_161 : decode cX12_finds 161 = .ok (.getfield 7, 3) := by decide +kernel
theorem dX12_finds_164 : decode cX12_finds 164 = .ok (.iload 9, 2) := by decide +kernel
theorem dX12_finds_166 : decode cX12_finds 166 = .ok (.iconst 1, 1) := by decide +kernel
theorem dX12_finds_167 : decode cX12_finds 167 = .ok (.iadd, 1) := by decide +kernel
theorem dX12_finds_168 : decode cX12_finds 168 = .ok (.iaload, 1) := by decide +kernel
theorem dX12_finds_169 : decode cX12_finds 169 = .ok (.istore_n 2, 1) := by decide +kernel
theorem dX12_finds_170 : decode cX12_finds 170 = .ok (.iload 10, 2) := by decide +kernel
theorem dX12_finds_172 : decode cX12_finds 172 = .ok (.istore_n 3, 1) := by decide +kernel
theorem dX12_finds_173 : decode cX12_finds 173 = .ok (.aload_n 0, 1) := by decide +kernel
theorem dX12_finds_174 : decode cX12_finds 174 = .ok (.getfield 7, 3) := by decide +kernel
theorem dX12_finds_177 : decode cX12_finds 177 = .ok (.iload 9, 2) := by decide +kernel
theorem dX12_finds_179 : decode cX12_finds 179 = .ok (.iconst 3, 1) := by decide +kernel
theorem dX12_finds_180 : decode cX12_finds 180 = .ok (.iadd, 1) := by decide +kernel
theorem dX12_finds_181 : decode cX12_finds 181 = .ok (.iaload, 1) := by decide +kernel
theorem dX12_finds_182 : decode cX12_finds 182 = .ok (.iconst 1, 1) := by decide +kernel
theorem dX12_finds_183 : decode cX12_finds 183 = .ok (.iadd, 1) := by decide +kernel
theorem dX12_finds_184 : decode cX12_finds 184 = .ok (.istore 4, 2) := by decide +kernel
theorem dX12_finds_186 : decode cX12_finds 186 = .ok (.iload 7, 2) := by decide +kernel
theorem dX12_finds_188 : decode cX12_finds 188 = .ok (.istore 5, 2) := by decide +kernel
theorem dX12_finds_190 : decode cX12_finds 190 = .ok (.iload 11, 2) := by decide +kernel
theorem dX12_finds_192 : decode cX12_finds 192 = .ok (.istore 6, 2) := by decide +kernel
theorem dX12_finds_194 : decode cX12_finds 194 = .ok (.iinc 7 1, 3) := by decide +kernel
theorem dX12_finds_197 : decode cX12_finds 197 = .ok (.goto (-173), 3) := by decide +kernel
theorem dX12_finds_200 : decode cX12_finds 200 = .ok (.aload_n 0, 1) := by decide +kernel
theorem dX12_finds_201 : decode cX12_finds 201 = .ok (.getfield 22, 3) := by decide +kernel
theorem dX12_finds_204 : decode cX12_finds 204 = .ok (.iconst 4, 1) := by decide +kernel
theorem dX12_finds_205 : decode cX12_finds 205 = .ok (.iload_n 1, 1) := by decide +kernel
theorem dX12_finds_206 : decode cX12_finds 206 = .ok (.imul, 1) := by decide +kernel
theorem dX12_finds_207 : decode cX12_finds 207 = .ok (.iload_n 2, 1) := by decide +kernel
theorem dX12_finds_208 : decode cX12_finds 208 = .ok (.iastore, 1) := by decide +kernel
theorem dX12_finds_209 : decode cX12_finds 209 = .ok (.aload_n 0, 1) := by decide +kernel
theorem dX12_finds_210 : decode cX12_finds 210 = .ok (.getfield 22, 3) := by decide +kernel
theorem dX12_finds_213 : decode cX12_finds 213 = .ok (.iconst 4, 1) := by decide +kernel
theorem dX12_finds_214 : decode cX12_finds 214 = .ok (.iload_n 1, 1) := by decide +kernel
theorem dX12_finds_215 : decode cX12_finds 215 = .ok (.imul, 1) := by decide +kernel
theorem dX12_finds_216 : decode cX12_finds 216 = .ok (.iconst 1, 1) := by decide +kernel
theorem dX12_finds_217 : decode cX12_finds 217 = .ok (.iadd, 1) := by decide +kernel
theorem dX12_finds_218 : decode cX12_finds 218 = .ok (.iload_n 3, 1) := by decide +kernel
theorem dX12_finds_219 : decode cX12_finds 219 = .ok (.iastore, 1) := by decide +kernel
theorem dX12_finds_220 : decode cX12_finds 220 = .ok (.aload_n 0, 1) := by decide +kernel
theorem dX12_finds_221 : decode cX12_finds 221 = .ok (.getfield 22, 3) := by decide +kernel
theorem dX12_finds_224 : decode cX12_finds 224 = .ok (.iconst 4, 1) := by decide +kernel
theorem dX12_finds_225 : decode cX12_finds 225 = .ok (.iload_n 1, 1) := by decide +kernel
theorem dX12_finds_226 : decode cX12_finds 226 = .ok (.imul, 1) := by decide +kernel
theorem dX12_finds_227 : decode cX12_finds 227 = .ok (.iconst 2, 1) := by decide +kernel
theorem dX12_finds_228 : decode cX12_finds 228 = .ok (.iadd, 1) := by decide +kernel
theorem dX12_finds_229 : decode cX12_finds 229 = .ok (.iload 4, 2) := by decide +kernel
theorem dX12_finds_231 : decode cX12_finds 231 = .ok (.iastore, 1) := by decide +kernel
theorem dX12_finds_232 : decode cX12_finds 232 = .ok (.aload_n 0, 1) := by decide +kernel
theorem dX12_finds_233 : decode cX12_finds 233 = .ok (.getfield 22, 3) := by decide +kernel
theorem dX12_finds_236 : decode cX12_finds 236 = .ok (.iconst 4, 1) := by decide +kernel
theorem dX12_finds_237 : decode cX12_finds 237 = .ok (.iload_n 1, 1) := by decide +kernel
theorem dX12_finds_238 : decode cX12_finds 238 = .ok (.imul, 1) := by decide +kernel
theorem dX12_finds_239 : decode cX12_finds 239 = .ok (.iconst 3, 1) := by decide +kernel
theorem dX12_finds_240 : decode cX12_finds 240 = .ok (.iadd, 1) := by decide +kernel
theorem dX12_finds_241 : decode cX12_finds 241 = .ok (.iload 5, 2) := by decide +kernel
theorem dX12_finds_243 : decode cX12_finds 243 = .ok (.iastore, 1) := by decide +kernel
theorem dX12_finds_244 : decode cX12_finds 244 = .ok (.return_, 1) := by decide +kernel
theorem dX12_vectors_0 : decode cX12_vectors 0 = .ok (.iconst 0, 1) := by decide +kernel
theorem dX12_vectors_1 : decode cX12_vectors 1 = .ok (.istore_n 1, 1) := by decide +kernel
theorem dX12_vectors_2 : decode cX12_vectors 2 = .ok (.iload_n 1, 1) := by decide +kernel
theorem dX12_vectors_3 : decode cX12_vectors 3 = .ok (.aload_n 0, 1) := by decide +kernel
theorem dX12_vectors_4 : decode cX12_vectors 4 = .ok (.getfield 7, 3) := by decide +kernel
theorem dX12_vectors_7 : decode cX12_vectors 7 = .ok (.iconst 0, 1) := by decide +kernel
theorem dX12_vectors_8 : decode cX12_vectors 8 = .ok (.iaload, 1) := by decide +kernel
theorem dX12_vectors_9 : decode cX12_vectors 9 = .ok (.if_icmp .ge 14, 3) := by decide +kernel
theorem dX12_vectors_12 : decode cX12_vectors 12 = .ok (.aload_n 0, 1) := by decide +kernel
theorem dX12_vectors_13 : decode cX12_vectors 13 = .ok (.iload_n 1, 1) := by decide +kernel
theorem dX12_vectors_14 : decode cX12_vectors 14 = .ok (.invokevirtual 152, 3) := by decide +kernel
theorem dX12_vectors_17 : decode cX12_vectors 17 = .ok (.iinc 1 1, 3) := by decide +kernel
theorem dX12_vectors_20 : decode cX12_vectors 20 = .ok (.goto (-18), 3) := by decide +kernel
theorem dX12_vectors_23 : decode cX12_vectors 23 = .ok (.iconst 0, 1) := by decide +kernel
theorem dX12_vectors_24 : decode cX12_vectors 24 = .ok (.istore_n 1, 1) := by decide +kernel
theorem dX12_vectors_25 : decode cX12_vectors 25 = .ok (.iload_n 1, 1) := by decide +kernel
theorem dX12_vectors_26 : decode cX12_vectors 26 = .ok (.aload_n 0, 1) := by decide +kernel
theorem dX12_vectors_27 : decode cX12_vectors 27 = .ok (.getfield 7, 3) := by decide +kernel
theorem dX12_vectors_30 : decode cX12_vectors 30 = .ok (.iconst 0, 1) := by decide +kernel
theorem dX12_vectors_31 : decode cX12_vectors 31 = .ok (.iaload, 1) := by decide +kernel
theorem dX12_vectors_32 : decode cX12_vectors 32 = .ok (.if_icmp .ge 47, 3) := by decide +kernel
theorem dX12_vectors_35 : decode cX12_vectors 35 = .ok (.iconst 0, 1) := by decide +kernel
theorem dX12_vectors_36 : decode cX12_vectors 36 = .ok (.istore_n 2, 1) := by decide +kernel
theorem dX12_vectors_37 : decode cX12_vectors 37 = .ok (.iload_n 2, 1) := by decide +kernel
theorem dX12_vectors_38 : decode cX12_vectors 38 = .ok (.iconst 4, 1) := by decide +kernel
theorem dX12_vectors_39 : decode cX12_vectors 39 = .ok (.if_icmp .ge 34, 3) := by decide +kernel
theorem dX12_vectors_42 : decode cX12_vectors 42 = .ok (.aload_n 0, 1) := by decide +kernel
theorem dX12_vectors_43 : decode cX12_vectors 43 = .ok (.getfield 7, 3) := by decide +kernel
theorem dX12_vectors_46 : decode cX12_vectors 46 = .ok (.bipush 11, 2) := by decide +kernel
theorem dX12_vectors_48 : decode cX12_vectors 48 = .ok (.iconst 5, 1) := by decide +kernel
theorem dX12_vectors_49 : decode cX12_vectors 49 = .ok (.iload_n 1, 1) := by decide +kernel
theorem dX12_vectors_50 : decode cX12_vectors 50 = .ok (.imul, 1) := by decide +kernel
theorem dX12_vectors_51 : decode cX12_vectors 51 = .ok (.iadd, 1) := by decide +kernel
theorem dX12_vectors_52 : decode cX12_vectors 52 = .ok (.iconst 1, 1) := by decide +kernel
theorem dX12_vectors_53 : decode cX12_vectors 53 = .ok (.iadd, 1) := by decide +kernel
theorem dX12_vectors_54 : decode cX12_vectors 54 = .ok (.iload_n 2, 1) := by decide +kernel
theorem dX12_vectors_55 : decode cX12_vectors 55 = .ok (.iadd, 1) := by decide +kernel
theorem dX12_vectors_56 : decode cX12_vectors 56 = .ok (.aload_n 0, 1) := by decide +kernel
theorem dX12_vectors_57 : decode cX12_vectors 57 = .ok (.getfield 22, 3) := by decide +kernel
theorem dX12_vectors_60 : decode cX12_vectors 60 = .ok (.iconst 4, 1) := by decide +kernel
theorem dX12_vectors_61 : decode cX12_vectors 61 = .ok (.iload_n 1, 1) := by decide +kernel
theorem dX12_vectors_62 : decode cX12_vectors 62 = .ok (.imul, 1) := by decide +kernel
theorem dX12_vectors_63 : decode cX12_vectors 63 = .ok (.iload_n 2, 1) := by decide +kernel
theorem dX12_vectors_64 : decode cX12_vectors 64 = .ok (.iadd, 1) := by decide +kernel
theorem dX12_vectors_65 : decode cX12_vectors 65 = .ok (.iaload, 1) := by decide +kernel
theorem dX12_vectors_66 : decode cX12_vectors 66 = .ok (.iastore, 1) := by decide +kernel
theorem dX12_vectors_67 : decode cX12_vectors 67 = .ok (.iinc 2 1, 3) := by decide +kernel
theorem dX12_vectors_70 : decode cX12_vectors 70 = .ok (.goto (-33), 3) := by decide +kernel
theorem dX12_vectors_73 : decode cX12_vectors 73 = .ok (.iinc 1 1, 3) := by decide +kernel
theorem dX12_vectors_76 : decode cX12_vectors 76 = .ok (.goto (-51), 3) := by decide +kernel
theorem dX12_vectors_79 : decode cX12_vectors 79 = .ok (.return_, 1) := by decide +kernel
theorem dX12_isAhead_0 : decode cX12_isAhead 0 = .ok (.bipush 11, 2) := by decide +kernel
theorem dX12_isAhead_2 : decode cX12_isAhead 2 = .ok (.iconst 5, 1) := by decide +kernel
theorem dX12_isAhead_3 : decode cX12_isAhead 3 = .ok (.iload_n 1, 1) := by decide +kernel
theorem dX12_isAhead_4 : decode cX12_isAhead 4 = .ok (.imul, 1) := by decide +kernel
theorem dX12_isAhead_5 : decode cX12_isAhead 5 = .ok (.iadd, 1) := by decide +kernel
theorem dX12_isAhead_6 : decode cX12_isAhead 6 = .ok (.istore_n 3, 1) := by decide +kernel
theorem dX12_isAhead_7 : decode cX12_isAhead 7 = .ok (.bipush 11, 2) := by decide +kernel
theorem dX12_isAhead_9 : decode cX12_isAhead 9 = .ok (.iconst 5, 1) := by decide +kernel
theorem dX12_isAhead_10 : decode cX12_isAhead 10 = .ok (.iload_n 2, 1) := by decide +kernel
theorem dX12_isAhead_11 : decode cX12_isAhead 11 = .ok (.imul, 1) := by decide +kernel
theorem dX12_isAhead_12 : decode cX12_isAhead 12 = .ok (.iadd, 1) := by decide +kernel
theorem dX12_isAhead_13 : decode cX12_isAhead 13 = .ok (.istore 4, 2) := by decide +kernel
theorem dX12_isAhead_15 : decode cX12_isAhead 15 = .ok (.aload_n 0, 1) := by decide +kernel
theorem dX12_isAhead_16 : decode cX12_isAhead 16 = .ok (.getfield 7, 3) := by decide +kernel
theorem dX12_isAhead_19 : decode cX12_isAhead 19 = .ok (.iload_n 3, 1) := by decide +kernel
theorem dX12_isAhead_20 : decode cX12_isAhead 20 = .ok (.iconst 1, 1) := by decide +kernel
theorem dX12_isAhead_21 : decode cX12_isAhead 21 = .ok (.iadd, 1) := by decide +kernel
theorem dX12_isAhead_22 : decode cX12_isAhead 22 = .ok (.iaload, 1) := by decide +kernel
theorem dX12_isAhead_23 : decode cX12_isAhead 23 = .ok (.aload_n 0, 1) := by decide +kernel
theorem dX12_isAhead_24 : decode cX12_isAhead 24 = .ok (.getfield 7, 3) := by decide +kernel
theorem dX12_isAhead_27 : decode cX12_isAhead 27 = .ok (.iload 4, 2) := by decide +kernel
theorem dX12_isAhead_29 : decode cX12_isAhead 29 = .ok (.iconst 1, 1) := by decide +kernel
theorem dX12_isAhead_30 : decode cX12_isAhead 30 = .ok (.iadd, 1) := by decide +kernel
theorem dX12_isAhead_31 : decode cX12_isAhead 31 = .ok (.iaload, 1) := by decide +kernel
theorem dX12_isAhead_32 : decode cX12_isAhead 32 = .ok (.if_icmp .eq 29, 3) := by decide +kernel
theorem dX12_isAhead_35 : decode cX12_isAhead 35 = .ok (.aload_n 0, 1) := by decide +kernel
theorem dX12_isAhead_36 : decode cX12_isAhead 36 = .ok (.getfield 7, 3) := by decide +kernel
theorem dX12_isAhead_39 : decode cX12_isAhead 39 = .ok (.iload_n 3, 1) := by decide +kernel
theorem dX12_isAhead_40 : decode cX12_isAhead 40 = .ok (.iconst 1, 1) := by decide +kernel
theorem dX12_isAhead_41 : decode cX12_isAhead 41 = .ok (.iadd, 1) := by decide +kernel
theorem dX12_isAhead_42 : decode cX12_isAhead 42 = .ok (.iaload, 1) := by decide +kernel
theorem dX12_isAhead_43 : decode cX12_isAhead 43 = .ok (.aload_n 0, 1) := by decide +kernel
theorem dX12_isAhead_44 : decode cX12_isAhead 44 = .ok (.getfield 7, 3) := by decide +kernel
theorem dX12_isAhead_47 : decode cX12_isAhead 47 = .ok (.iload 4, 2) := by decide +kernel
theorem dX12_isAhead_49 : decode cX12_isAhead 49 = .ok (.iconst 1, 1) := by decide +kernel
theorem dX12_isAhead_50 : decode cX12_isAhead 50 = .ok (.iadd, 1) := by decide +kernel
theorem dX12_isAhead_51 : decode cX12_isAhead 51 = .ok (.iaload, 1) := by decide +kernel
theorem dX12_isAhead_52 : decode cX12_isAhead 52 = .ok (.if_icmp .ge 7, 3) := by decide +kernel
theorem dX12_isAhead_55 : decode cX12_isAhead 55 = .ok (.iconst 1, 1) := by decide +kernel
theorem dX12_isAhead_56 : decode cX12_isAhead 56 = .ok (.goto 4, 3) := by decide +kernel
theorem dX12_isAhead_59 : decode cX12_isAhead 59 = .ok (.iconst 0, 1) := by decide +kernel
theorem dX12_isAhead_60 : decode cX12_isAhead 60 = .ok (.ireturn, 1) := by decide +kernel
theorem dX12_isAhead_61 : decode cX12_isAhead 61 = .ok (.aload_n 0, 1) := by decide +kernel
theorem dX12_isAhead_62 : decode cX12_isAhead 62 = .ok (.getfield 7, 3) := by decide +kernel
theorem dX12_isAhead_65 : decode cX12_isAhead 65 = .ok (.iload_n 3, 1) := by decide +kernel
theorem dX12_isAhead_66 : decode cX12_isAhead 66 = .ok (.iconst 2, 1) := by decide +kernel
theorem dX12_isAhead_67 : decode cX12_isAhead 67 = .ok (.iadd, 1) := by decide +kernel
theorem dX12_isAhead_68 : decode cX12_isAhead 68 = .ok (.iaload, 1) := by decide +kernel
theorem dX12_isAhead_69 : decode cX12_isAhead 69 = .ok (.aload_n 0, 1) := by decide +kernel
theorem dX12_isAhead_70 : decode cX12_isAhead 70 = .ok (.getfield 7, 3) := by decide +kernel
theorem dX12_isAhead_73 : decode cX12_isAhead 73 = .ok (.iload 4, 2) := by decide +kernel
theorem dX12_isAhead_75 : decode cX12_isAhead 75 = .ok (.iconst 2, 1) := by decide +kernel
theorem dX12_isAhead_76 : decode cX12_isAhead 76 = .ok (.iadd, 1) := by decide +kernel
theorem dX12_isAhead_77 : decode cX12_isAhead 77 = .ok (.iaload, 1) := by decide +kernel
theorem dX12_isAhead_78 : decode cX12_isAhead 78 = .ok (.if_icmp .eq 31, 3) := by decide +kernel
theorem dX12_isAhead_81 : decode cX12_isAhead 81 = .ok (.aload_n 0, 1) := by decide +kernel
theorem dX12_isAhead_82 : decode cX12_isAhead 82 = .ok (.getfield 7, 3) := by decide +kernel
theorem dX12_isAhead_85 : decode cX12_isAhead 85 = .ok (.iload_n 3, 1) := by decide +kernel
theorem dX12_isAhead_86 : decode cX12_isAhead 86 = .ok (.iconst 2, 1) := by decide +kernel
theorem dX12_isAhead_87 : decode cX12_isAhead 87 = .ok (.iadd, 1) := by decide +kernel
theorem dX12_isAhead_88 : decode cX12_isAhead 88 = .ok (.iaload, 1) := by decide +kernel
theorem dX12_isAhead_89 : decode cX12_isAhead 89 = .ok (.aload_n 0, 1) := by decide +kernel
theorem dX12_isAhead_90 : decode cX12_isAhead 90 = .ok (.getfield 7, 3) := by decide +kernel
theorem dX12_isAhead_93 : decode cX12_isAhead 93 = .ok (.iload 4, 2) := by decide +kernel
theorem dX12_isAhead_95 : decode cX12_isAhead 95 = .ok (.iconst 2, 1) := by decide +kernel
theorem dX12_isAhead_96 : decode cX12_isAhead 96 = .ok (.iadd, 1) := by decide +kernel
theorem dX12_isAhead_97 : decode cX12_isAhead 97 = .ok (.iaload, 1) := by decide +kernel
theorem dX12_isAhead_98 : decode cX12_isAhead 98 = .ok (.if_icmp .ge 7, 3) := by decide +kernel
theorem dX12_isAhead_101 : decode cX12_isAhead 101 = .ok (.iconst 1, 1) := by decide +kernel
theorem dX12_isAhead_102 : decode cX12_isAhead 102 = .ok (.goto 25, 3) := by decide +kernel
theorem dX12_isAhead_105 : decode cX12_isAhead 105 = .ok (.iconst 0, 1) := by decide +kernel
theorem dX12_isAhead_106 : decode cX12_isAhead 106 = .ok (.goto 21, 3) := by decide +kernel
theorem dX12_isAhead_109 : decode cX12_isAhead 109 = .ok (.aload_n 0, 1) := by decide +kernel
theorem dX12_isAhead_110 : decode cX12_isAhead 110 = .ok (.iload_n 1, 1) := by decide +kernel
theorem dX12_isAhead_111 : decode cX12_isAhead 111 = .ok (.invokevirtual 53, 3) := by decide +kernel
theorem dX12_isAhead_114 : decode cX12_isAhead 114 = .ok (.aload_n 0, 1) := by decide +kernel
theorem dX12_isAhead_115 : decode cX12_isAhead 115 = .ok (.iload_n 2, 1) := by decide +kernel
theorem dX12_isAhead_116 : decode cX12_isAhead 116 = .ok (.invokevirtual 53, 3) := by decide +kernel
theorem dX12_isAhead_119 : decode cX12_isAhead 119 = .ok (.if_icmp .ge 7, 3) := by decide +kernel
theorem dX12_isAhead_122 : decode cX12_isAhead 122 = .ok (.iconst 1, 1) := by decide +kernel
theorem dX12_isAhead_123 : decode cX12_isAhead 123 = .ok (.goto 4, 3) := by decide +kernel
theorem dX12_isAhead_126 : decode cX12_isAhead 126 = .ok (.iconst 0, 1) := by decide +kernel
theorem dX12_isAhead_127 : decode cX12_isAhead 127 = .ok (.ireturn, 1) := by decide +kernel
theorem dX12_roleOf_0 : decode cX12_roleOf 0 = .ok (.aload_n 0, 1) := by decide +kernel
theorem dX12_roleOf_1 : decode cX12_roleOf 1 = .ok (.iload_n 1, 1) := by decide +kernel
theorem dX12_roleOf_2 : decode cX12_roleOf 2 = .ok (.iconst 4, 1) := by decide +kernel
theorem dX12_roleOf_3 : decode cX12_roleOf 3 = .ok (.invokevirtual 62, 3) := by decide +kernel
theorem dX12_roleOf_6 : decode cX12_roleOf 6 = .ok (.ifCond .ne 5, 3) := by decide +kernel
theorem dX12_roleOf_9 : decode cX12_roleOf 9 = .ok (.iconst 2, 1) := by decide +kernel
theorem dX12_roleOf_10 : decode cX12_roleOf 10 = .ok (.ireturn, 1) := by decide +kernel
theorem dX12_roleOf_11 : decode cX12_roleOf 11 = .ok (.aload_n 0, 1) := by decide +kernel
theorem dX12_roleOf_12 : decode cX12_roleOf 12 = .ok (.getfield 7, 3) := by decide +kernel
theorem dX12_roleOf_15 : decode cX12_roleOf 15 = .ok (.bipush 11, 2) := by decide +kernel
theorem dX12_roleOf_17 : decode cX12_roleOf 17 = .ok (.iconst 5, 1) := by decide +kernel
theorem dX12_roleOf_18 : decode cX12_roleOf 18 = .ok (.iload_n 2, 1) := by decide +kernel
theorem dX12_roleOf_19 : decode cX12_roleOf 19 = .ok (.imul, 1) := by decide +kernel
theorem dX12_roleOf_20 : decode cX12_roleOf 20 = .ok (.iadd, 1) := by decide +kernel
theorem dX12_roleOf_21 : decode cX12_roleOf 21 = .ok (.iconst 4, 1) := by decide +kernel
theorem dX12_roleOf_22 : decode cX12_roleOf 22 = .ok (.iadd, 1) := by decide +kernel
theorem dX12_roleOf_23 : decode cX12_roleOf 23 = .ok (.iaload, 1) := by decide +kernel
theorem dX12_roleOf_24 : decode cX12_roleOf 24 = .ok (.iload_n 1, 1) := by decide +kernel
theorem dX12_roleOf_25 : decode cX12_roleOf 25 = .ok (.if_icmp .ne 7, 3) := by decide +kernel
theorem dX12_roleOf_28 : decode cX12_roleOf 28 = .ok (.iconst 0, 1) := by decide +kernel
theorem dX12_roleOf_29 : decode cX12_roleOf 29 = .ok (.goto 22, 3) := by decide +kernel
theorem dX12_roleOf_32 : decode cX12_roleOf 32 = .ok (.aload_n 0, 1) := by decide +kernel
theorem dX12_roleOf_33 : decode cX12_roleOf 33 = .ok (.iload_n 2, 1) := by decide +kernel
theorem dX12_roleOf_34 : decode cX12_roleOf 34 = .ok (.aload_n 0, 1) := by decide +kernel
theorem dX12_roleOf_35 : decode cX12_roleOf 35 = .ok (.iload_n 1, 1) := by decide +kernel
theorem dX12_roleOf_36 : decode cX12_roleOf 36 = .ok (.iload_n 2, 1) := by decide +kernel
theorem dX12_roleOf_37 : decode cX12_roleOf 37 = .ok (.invokevirtual 146, 3) := by decide +kernel
theorem dX12_roleOf_40 : decode cX12_roleOf 40 = .ok (.invokevirtual 155, 3) := by decide +kernel
theorem dX12_roleOf_43 : decode cX12_roleOf 43 = .ok (.ifCond .eq 7, 3) := by decide +kernel
theorem dX12_roleOf_46 : decode cX12_roleOf 46 = .ok (.iconst 1, 1) := by decide +kernel
theorem dX12_roleOf_47 : decode cX12_roleOf 47 = .ok (.goto 4, 3) := by decide +kernel
theorem dX12_roleOf_50 : decode cX12_roleOf 50 = .ok (.iconst 2, 1) := by decide +kernel
theorem dX12_roleOf_51 : decode cX12_roleOf 51 = .ok (.ireturn, 1) := by decide +kernel
theorem dX12_goesOn_0 : decode cX12_goesOn 0 = .ok (.sipush 199, 3) := by decide +kernel
theorem dX12_goesOn_3 : decode cX12_goesOn 3 = .ok (.bipush 18, 2) := by decide +kernel
theorem dX12_goesOn_5 : decode cX12_goesOn 5 = .ok (.iload_n 1, 1) := by decide +kernel
theorem dX12_goesOn_6 : decode cX12_goesOn 6 = .ok (.imul, 1) := by decide +kernel
theorem dX12_goesOn_7 : decode cX12_goesOn 7 = .ok (.iadd, 1) := by decide +kernel
theorem dX12_goesOn_8 : decode cX12_goesOn 8 = .ok (.bipush 8, 2) := by decide +kernel
theorem dX12_goesOn_10 : decode cX12_goesOn 10 = .ok (.iadd, 1) := by decide +kernel
theorem dX12_goesOn_11 : decode cX12_goesOn 11 = .ok (.iconst 3, 1) := by decide +kernel
theorem dX12_goesOn_12 : decode cX12_goesOn 12 = .ok (.iload_n 2, 1) := by decide +kernel
theorem dX12_goesOn_13 : decode cX12_goesOn 13 = .ok (.imul, 1) := by decide +kernel
theorem dX12_goesOn_14 : decode cX12_goesOn 14 = .ok (.iadd, 1) := by decide +kernel
theorem dX12_goesOn_15 : decode cX12_goesOn 15 = .ok (.istore_n 3, 1) := by decide +kernel
theorem dX12_goesOn_16 : decode cX12_goesOn 16 = .ok (.aload_n 0, 1) := by decide +kernel
theorem dX12_goesOn_17 : decode cX12_goesOn 17 = .ok (.getfield 7, 3) := by decide +kernel
theorem dX12_goesOn_20 : decode cX12_goesOn 20 = .ok (.iload_n 3, 1) := by decide +kernel
theorem dX12_goesOn_21 : decode cX12_goesOn 21 = .ok (.iconst 1, 1) := by decide +kernel
theorem dX12_goesOn_22 : decode cX12_goesOn 22 = .ok (.iadd, 1) := by decide +kernel
theorem dX12_goesOn_23 : decode cX12_goesOn 23 = .ok (.iaload, 1) := by decide +kernel
theorem dX12_goesOn_24 : decode cX12_goesOn 24 = .ok (.istore 4, 2) := by decide +kernel
theorem dX12_goesOn_26 : decode cX12_goesOn 26 = .ok (.aload_n 0, 1) := by decide +kernel
theorem dX12_goesOn_27 : decode cX12_goesOn 27 = .ok (.getfield 7, 3) := by decide +kernel
theorem dX12_goesOn_30 : decode cX12_goesOn 30 = .ok (.iload_n 3, 1) := by decide +kernel
theorem dX12_goesOn_31 : decode cX12_goesOn 31 = .ok (.aload_n 0, 1) := by decide +kernel
theorem dX12_goesOn_32 : decode cX12_goesOn 32 = .ok (.iload_n 1, 1) := by decide +kernel
theorem dX12_goesOn_33 : decode cX12_goesOn 33 = .ok (.aload_n 0, 1) := by decide +kernel
theorem dX12_goesOn_34 : decode cX12_goesOn 34 = .ok (.iload_n 1, 1) := by decide +kernel
theorem dX12_goesOn_35 : decode cX12_goesOn 35 = .ok (.iload_n 2, 1) := by decide +kernel
theorem dX12_goesOn_36 : decode cX12_goesOn 36 = .ok (.invokevirtual 62, 3) := by decide +kernel
theorem dX12_goesOn_39 : decode cX12_goesOn 39 = .ok (.invokevirtual 158, 3) := by decide +kernel
theorem dX12_goesOn_42 : decode cX12_goesOn 42 = .ok (.iastore, 1) := by decide +kernel
theorem dX12_goesOn_43 : decode cX12_goesOn 43 = .ok (.aload_n 0, 1) := by decide +kernel
theorem dX12_goesOn_44 : decode cX12_goesOn 44 = .ok (.getfield 7, 3) := by decide +kernel
theorem dX12_goesOn_47 : decode cX12_goesOn 47 = .ok (.iload_n 3, 1) := by decide +kernel
theorem dX12_goesOn_48 : decode cX12_goesOn 48 = .ok (.iaload, 1) := by decide +kernel
theorem dX12_goesOn_49 : decode cX12_goesOn 49 = .ok (.iconst 2, 1) := by decide +kernel
theorem dX12_goesOn_50 : decode cX12_goesOn 50 = .ok (.if_icmp .ne 24, 3) := by decide +kernel
theorem dX12_goesOn_53 : decode cX12_goesOn 53 = .ok (.aload_n 0, 1) := by decide +kernel
theorem dX12_goesOn_54 : decode cX12_goesOn 54 = .ok (.getfield 7, 3) := by decide +kernel
theorem dX12_goesOn_57 : decode cX12_goesOn 57 = .ok (.iload_n 3, 1) := by decide +kernel
theorem dX12_goesOn_58 : decode cX12_goesOn 58 = .ok (.iconst 1, 1) := by decide +kernel
theorem dX12_goesOn_59 : decode cX12_goesOn 59 = .ok (.iadd, 1) := by decide +kernel
theorem dX12_goesOn_60 : decode cX12_goesOn 60 = .ok (.iconst 0, 1) := by decide +kernel
theorem dX12_goesOn_61 : decode cX12_goesOn 61 = .ok (.iastore, 1) := by decide +kernel
theorem dX12_goesOn_62 : decode cX12_goesOn 62 = .ok (.aload_n 0, 1) := by decide +kernel
theorem dX12_goesOn_63 : decode cX12_goesOn 63 = .ok (.getfield 7, 3) := by decide +kernel
theorem dX12_goesOn_66 : decode cX12_goesOn 66 = .ok (.iload_n 3, 1) := by decide +kernel
theorem dX12_goesOn_67 : decode cX12_goesOn 67 = .ok (.iconst 2, 1) := by decide +kernel
theorem dX12_goesOn_68 : decode cX12_goesOn 68 = .ok (.iadd, 1) := by decide +kernel
theorem dX12_goesOn_69 : decode cX12_goesOn 69 = .ok (.iconst 0, 1) := by decide +kernel
theorem dX12_goesOn_70 : decode cX12_goesOn 70 = .ok (.iastore, 1) := by decide +kernel
theorem dX12_goesOn_71 : decode cX12_goesOn 71 = .ok (.goto 99, 3) := by decide +kernel
theorem dX12_goesOn_74 : decode cX12_goesOn 74 = .ok (.iload 4, 2) := by decide +kernel
theorem dX12_goesOn_76 : decode cX12_goesOn 76 = .ok (.ifCond .ne 29, 3) := by decide +kernel
theorem dX12_goesOn_79 : decode cX12_goesOn 79 = .ok (.aload_n 0, 1) := by decide +kernel
theorem dX12_goesOn_80 : decode cX12_goesOn 80 = .ok (.getfield 7, 3) := by decide +kernel
theorem dX12_goesOn_83 : decode cX12_goesOn 83 = .ok (.iload_n 3, 1) := by decide +kernel
theorem dX12_goesOn_84 : decode cX12_goesOn 84 = .ok (.iconst 1, 1) := by decide +kernel
theorem dX12_goesOn_85 : decode cX12_goesOn 85 = .ok (.iadd, 1) := by decide +kernel
theorem dX12_goesOn_86 : decode cX12_goesOn 86 = .ok (.iconst 1, 1) := by decide +kernel
theorem dX12_goesOn_87 : decode cX12_goesOn 87 = .ok (.iastore, 1) := by decide +kernel
theorem dX12_goesOn_88 : decode cX12_goesOn 88 = .ok (.aload_n 0, 1) := by decide +kernel
theorem dX12_goesOn_89 : decode cX12_goesOn 89 = .ok (.getfield 7, 3) := by decide +kernel
theorem dX12_goesOn_92 : decode cX12_goesOn 92 = .ok (.iload_n 3, 1) := by decide +kernel
theorem dX12_goesOn_93 : decode cX12_goesOn 93 = .ok (.iconst 2, 1) := by decide +kernel
theorem dX12_goesOn_94 : decode cX12_goesOn 94 = .ok (.iadd, 1) := by decide +kernel
theorem dX12_goesOn_95 : decode cX12_goesOn 95 = .ok (.aload_n 0, 1) := by decide +kernel
theorem dX12_goesOn_96 : decode cX12_goesOn 96 = .ok (.getfield 7, 3) := by decide +kernel
theorem dX12_goesOn_99 : decode cX12_goesOn 99 = .ok (.iconst 2, 1) := by decide +kernel
theorem dX12_goesOn_100 : decode cX12_goesOn 100 = .ok (.iaload, 1) := by decide +kernel
theorem dX12_goesOn_101 : decode cX12_goesOn 101 = .ok (.iastore, 1) := by decide +kernel
theorem dX12_goesOn_102 : decode cX12_goesOn 102 = .ok (.goto 68, 3) := by decide +kernel
theorem dX12_goesOn_105 : decode cX12_goesOn 105 = .ok (.iload 4, 2) := by decide +kernel
theorem dX12_goesOn_107 : decode cX12_goesOn 107 = .ok (.iconst 3, 1) := by decide +kernel
theorem dX12_goesOn_108 : decode cX12_goesOn 108 = .ok (.if_icmp .eq 62, 3) := by decide +kernel
theorem dX12_goesOn_111 : decode cX12_goesOn 111 = .ok (.aload_n 0, 1) := by decide +kernel
theorem dX12_goesOn_112 : decode cX12_goesOn 112 = .ok (.getfield 7, 3) := by decide +kernel
theorem dX12_goesOn_115 : decode cX12_goesOn 115 = .ok (.iload_n 3, 1) := by decide +kernel
theorem dX12_goesOn_116 : decode cX12_goesOn 116 = .ok (.iconst 2, 1) := by decide +kernel
theorem dX12_goesOn_117 : decode cX12_goesOn 117 = .ok (.iadd, 1) := by decide +kernel
theorem dX12_goesOn_118 : decode cX12_goesOn 118 = .ok (.dup2, 1) := by decide +kernel
theorem dX12_goesOn_119 : decode cX12_goesOn 119 = .ok (.iaload, 1) := by decide +kernel
theorem dX12_goesOn_120 : decode cX12_goesOn 120 = .ok (.iconst 1, 1) := by decide +kernel
theorem dX12_goesOn_121 : decode cX12_goesOn 121 = .ok (.isub, 1) := by decide +kernel
theorem dX12_goesOn_122 : decode cX12_goesOn 122 = .ok (.iastore, 1) := by decide +kernel
theorem dX12_goesOn_123 : decode cX12_goesOn 123 = .ok (.aload_n 0, 1) := by decide +kernel
theorem dX12_goesOn_124 : decode cX12_goesOn 124 = .ok (.getfield 7, 3) := by decide +kernel
theorem dX12_goesOn_127 : decode cX12_goesOn 127 = .ok (.iload_n 3, 1) := by decide +kernel
theorem dX12_goesOn_128 : decode cX12_goesOn 128 = .ok (.iconst 2, 1) := by decide +kernel
theorem dX12_goesOn_129 : decode cX12_goesOn 129 = .ok (.iadd, 1) := by decide +kernel
theorem dX12_goesOn_130 : decode cX12_goesOn 130 = .ok (.iaload, 1) := by decide +kernel
theorem dX12_goesOn_131 : decode cX12_goesOn 131 = .ok (.ifCond .ne 39, 3) := by decide +kernel
theorem dX12_goesOn_134 : decode cX12_goesOn 134 = .ok (.aload_n 0, 1) := by decide +kernel
theorem dX12_goesOn_135 : decode cX12_goesOn 135 = .ok (.getfield 7, 3) := by decide +kernel
theorem dX12_goesOn_138 : decode cX12_goesOn 138 = .ok (.iload_n 3, 1) := by decide +kernel
theorem dX12_goesOn_139 : decode cX12_goesOn 139 = .ok (.iconst 1, 1) := by decide +kernel
theorem dX12_goesOn_140 : decode cX12_goesOn 140 = .ok (.iadd, 1) := by decide +kernel
theorem dX12_goesOn_141 : decode cX12_goesOn 141 = .ok (.iload 4, 2) := by decide +kernel
theorem dX12_goesOn_143 : decode cX12_goesOn 143 = .ok (.iconst 1, 1) := by decide +kernel
theorem dX12_goesOn_144 : decode cX12_goesOn 144 = .ok (.iadd, 1) := by decide +kernel
theorem dX12_goesOn_145 : decode cX12_goesOn 145 = .ok (.iastore, 1) := by decide +kernel
theorem dX12_goesOn_146 : decode cX12_goesOn 146 = .ok (.aload_n 0, 1) := by decide +kernel
theorem dX12_goesOn_147 : decode cX12_goesOn 147 = .ok (.getfield 7, 3) := by decide +kernel
theorem dX12_goesOn_150 : decode cX12_goesOn 150 = .ok (.iload_n 3, 1) := by decide +kernel
theorem dX12_goesOn_151 : decode cX12_goesOn 151 = .ok (.iconst 2, 1) := by decide +kernel
theorem dX12_goesOn_152 : decode cX12_goesOn 152 = .ok (.iadd, 1) := by decide +kernel
theorem dX12_goesOn_153 : decode cX12_goesOn 153 = .ok (.iload 4, 2) := by decide +kernel
theorem dX12_goesOn_155 : decode cX12_goesOn 155 = .ok (.iconst 1, 1) := by decide +kernel
theorem dX12_goesOn_156 : decode cX12_goesOn 156 = .ok (.if_icmp .ne 12, 3) := by decide +kernel
theorem dX12_goesOn_159 : decode cX12_goesOn 159 = .ok (.aload_n 0, 1) := by decide +kernel
theorem dX12_goesOn_160 : decode cX12_goesOn 160 = .ok (.getfield 7, 3) := by decide +kernel
theorem dX12_goesOn_163 : decode cX12_goesOn 163 = .ok (.iconst 2, 1) := by decide +kernel
theorem dX12_goesOn_164 : decode cX12_goesOn 164 = .ok (.iaload, 1) := by decide +kernel
theorem dX12_goesOn_165 : decode cX12_goesOn 165 = .ok (.goto 4, 3) := by decide +kernel
theorem dX12_goesOn_168 : decode cX12_goesOn 168 = .ok (.iconst 0, 1) := by decide +kernel
theorem dX12_goesOn_169 : decode cX12_goesOn 169 = .ok (.iastore, 1) := by decide +kernel
theorem dX12_goesOn_170 : decode cX12_goesOn 170 = .ok (.iload 4, 2) := by decide +kernel
theorem dX12_goesOn_172 : decode cX12_goesOn 172 = .ok (.iconst 3, 1) := by decide +kernel
theorem dX12_goesOn_173 : decode cX12_goesOn 173 = .ok (.if_icmp .ne 7, 3) := by decide +kernel
theorem dX12_goesOn_176 : decode cX12_goesOn 176 = .ok (.iconst 1, 1) := by decide +kernel
theorem dX12_goesOn_177 : decode cX12_goesOn 177 = .ok (.goto 4, 3) := by decide +kernel
theorem dX12_goesOn_180 : decode cX12_goesOn 180 = .ok (.iconst 0, 1) := by decide +kernel
theorem dX12_goesOn_181 : decode cX12_goesOn 181 = .ok (.aload_n 0, 1) := by decide +kernel
theorem dX12_goesOn_182 : decode cX12_goesOn 182 = .ok (.getfield 7, 3) := by decide +kernel
theorem dX12_goesOn_185 : decode cX12_goesOn 185 = .ok (.iload_n 3, 1) := by decide +kernel
theorem dX12_goesOn_186 : decode cX12_goesOn 186 = .ok (.iconst 1, 1) := by decide +kernel
theorem dX12_goesOn_187 : decode cX12_goesOn 187 = .ok (.iadd, 1) := by decide +kernel
theorem dX12_goesOn_188 : decode cX12_goesOn 188 = .ok (.iaload, 1) := by decide +kernel
theorem dX12_goesOn_189 : decode cX12_goesOn 189 = .ok (.iconst 3, 1) := by decide +kernel
theorem dX12_goesOn_190 : decode cX12_goesOn 190 = .ok (.if_icmp .ne 7, 3) := by decide +kernel
theorem dX12_goesOn_193 : decode cX12_goesOn 193 = .ok (.iconst 1, 1) := by decide +kernel
theorem dX12_goesOn_194 : decode cX12_goesOn 194 = .ok (.goto 4, 3) := by decide +kernel
theorem dX12_goesOn_197 : decode cX12_goesOn 197 = .ok (.iconst 0, 1) := by decide +kernel
theorem dX12_goesOn_198 : decode cX12_goesOn 198 = .ok (.if_icmp .eq 7, 3) := by decide +kernel
theorem dX12_goesOn_201 : decode cX12_goesOn 201 = .ok (.iconst 1, 1) := by decide +kernel
theorem dX12_goesOn_202 : decode cX12_goesOn 202 = .ok (.goto 4, 3) := by decide +kernel
theorem dX12_goesOn_205 : decode cX12_goesOn 205 = .ok (.iconst 0, 1) := by decide +kernel
theorem dX12_goesOn_206 : decode cX12_goesOn 206 = .ok (.ireturn, 1) := by decide +kernel
theorem dX12_ports_0 : decode cX12_ports 0 = .ok (.iconst 0, 1) := by decide +kernel
theorem dX12_ports_1 : decode cX12_ports 1 = .ok (.istore_n 1, 1) := by decide +kernel
theorem dX12_ports_2 : decode cX12_ports 2 = .ok (.iconst 0, 1) := by decide +kernel
theorem dX12_ports_3 : decode cX12_ports 3 = .ok (.istore_n 2, 1) := by decide +kernel
theorem dX12_ports_4 : decode cX12_ports 4 = .ok (.iload_n 2, 1) := by decide +kernel
theorem dX12_ports_5 : decode cX12_ports 5 = .ok (.iconst 2, 1) := by decide +kernel
theorem dX12_ports_6 : decode cX12_ports 6 = .ok (.aload_n 0, 1) := by decide +kernel
theorem dX12_ports_7 : decode cX12_ports 7 = .ok (.getfield 7, 3) := by decide +kernel
theorem dX12_ports_10 : decode cX12_ports 10 = .ok (.iconst 5, 1) := by decide +kernel
theorem dX12_ports_11 : decode cX12_ports 11 = .ok (.iaload, 1) := by decide +kernel
theorem dX12_ports_12 : decode cX12_ports 12 = .ok (.imul, 1) := by decide +kernel
theorem dX12_ports_13 : decode cX12_ports 13 = .ok (.if_icmp .ge 48, 3) := by decide +kernel
theorem dX12_ports_16 : decode cX12_ports 16 = .ok (.aload_n 0, 1) := by decide +kernel
theorem dX12_ports_17 : decode cX12_ports 17 = .ok (.iload_n 2, 1) := by decide +kernel
theorem dX12_ports_18 : decode cX12_ports 18 = .ok (.iconst 2, 1) := by decide +kernel
theorem dX12_ports_19 : decode cX12_ports 19 = .ok (.idiv, 1) := by decide +kernel
theorem dX12_ports_20 : decode cX12_ports 20 = .ok (.iload_n 2, 1) := by decide +kernel
theorem dX12_ports_21 : decode cX12_ports 21 = .ok (.iconst 2, 1) := by decide +kernel
theorem dX12_ports_22 : decode cX12_ports 22 = .ok (.irem, 1) := by decide +kernel
theorem dX12_ports_23 : decode cX12_ports 23 = .ok (.invokevirtual 161, 3) := by decide +kernel
theorem dX12_ports_26 : decode cX12_ports 26 = .ok (.ifCond .eq 29, 3) := by decide +kernel
theorem dX12_ports_29 : decode cX12_ports 29 = .ok (.aload_n 0, 1) := by decide +kernel
theorem dX12_ports_30 : decode cX12_ports 30 = .ok (.getfield 7, 3) := by decide +kernel
theorem dX12_ports_33 : decode cX12_ports 33 = .ok (.bipush 7, 2) := by decide +kernel
theorem dX12_ports_35 : decode cX12_ports 35 = .ok (.dup2, 1) := by decide +kernel
theorem dX12_ports_36 : decode cX12_ports 36 = .ok (.iaload, 1) := by decide +kernel
theorem dX12_ports_37 : decode cX12_ports 37 = .ok (.iconst 1, 1) := by decide +kernel
theorem dX12_ports_38 : decode cX12_ports 38 = .ok (.iadd, 1) := by decide +kernel
theorem dX12_ports_39 : decode cX12_ports 39 = .ok (.iastore, 1) := by decide +kernel
theorem dX12_ports_40 : decode cX12_ports 40 = .ok (.iload_n 1, 1) := by decide +kernel
theorem dX12_ports_41 : decode cX12_ports 41 = .ok (.iconst 1, 1) := by decide +kernel
theorem dX12_ports_42 : decode cX12_ports 42 = .ok (.aload_n 0, 1) := by decide +kernel
theorem dX12_ports_43 : decode cX12_ports 43 = .ok (.iload_n 2, 1) := by decide +kernel
theorem dX12_ports_44 : decode cX12_ports 44 = .ok (.iconst 2, 1) := by decide +kernel
theorem dX12_ports_45 : decode cX12_ports 45 = .ok (.idiv, 1) := by decide +kernel
theorem dX12_ports_46 : decode cX12_ports 46 = .ok (.iload_n 2, 1) := by decide +kernel
theorem dX12_ports_47 : decode cX12_ports 47 = .ok (.iconst 2, 1) := by decide +kernel
theorem dX12_ports_48 : decode cX12_ports 48 = .ok (.irem, 1) := by decide +kernel
theorem dX12_ports_49 : decode cX12_ports 49 = .ok (.invokevirtual 62, 3) := by decide +kernel
theorem dX12_ports_52 : decode cX12_ports 52 = .ok (.ishl, 1) := by decide +kernel
theorem dX12_ports_53 : decode cX12_ports 53 = .ok (.ior, 1) := by decide +kernel
theorem dX12_ports_54 : decode cX12_ports 54 = .ok (.istore_n 1, 1) := by decide +kernel
theorem dX12_ports_55 : decode cX12_ports 55 = .ok (.iinc 2 1, 3) := by decide +kernel
theorem dX12_ports_58 : decode cX12_ports 58 = .ok (.goto (-54), 3) := by decide +kernel
theorem dX12_ports_61 : decode cX12_ports 61 = .ok (.iconst 0, 1) := by decide +kernel
theorem dX12_ports_62 : decode cX12_ports 62 = .ok (.istore_n 2, 1) := by decide +kernel
theorem dX12_ports_63 : decode cX12_ports 63 = .ok (.iconst 0, 1) := by decide +kernel
theorem dX12_ports_64 : decode cX12_ports 64 = .ok (.istore_n 3, 1) := by decide +kernel
theorem dX12_ports_65 : decode cX12_ports 65 = .ok (.iload_n 3, 1) := by decide +kernel
theorem dX12_ports_66 : decode cX12_ports 66 = .ok (.aload_n 0, 1) := by decide +kernel
theorem dX12_ports_67 : decode cX12_ports 67 = .ok (.getfield 7, 3) := by decide +kernel
theorem dX12_ports_70 : decode cX12_ports 70 = .ok (.iconst 0, 1) := by decide +kernel
theorem dX12_ports_71 : decode cX12_ports 71 = .ok (.iaload, 1) := by decide +kernel
theorem dX12_ports_72 : decode cX12_ports 72 = .ok (.if_icmp .ge 30, 3) := by decide +kernel
theorem dX12_ports_75 : decode cX12_ports 75 = .ok (.iload_n 2, 1) := by decide +kernel
theorem dX12_ports_76 : decode cX12_ports 76 = .ok (.iload_n 1, 1) := by decide +kernel
theorem dX12_ports_77 : decode cX12_ports 77 = .ok (.iload_n 3, 1) := by decide +kernel
theorem dX12_ports_78 : decode cX12_ports 78 = .ok (.ishr, 1) := by decide +kernel
theorem dX12_ports_79 : decode cX12_ports 79 = .ok (.iconst 1, 1) := by decide +kernel
theorem dX12_ports_80 : decode cX12_ports 80 = .ok (.iand, 1) := by decide +kernel
theorem dX12_ports_81 : decode cX12_ports 81 = .ok (.iconst 1, 1) := by decide +kernel
theorem dX12_ports_82 : decode cX12_ports 82 = .ok (.if_icmp .ne 11, 3) := by decide +kernel
theorem dX12_ports_85 : decode cX12_ports 85 = .ok (.aload_n 0, 1) := by decide +kernel
theorem dX12_ports_86 : decode cX12_ports 86 = .ok (.iload_n 3, 1) := by decide +kernel
theorem dX12_ports_87 : decode cX12_ports 87 = .ok (.invokevirtual 164, 3) := by decide +kernel
theorem dX12_ports_90 : decode cX12_ports 90 = .ok (.goto 4, 3) := by decide +kernel
theorem dX12_ports_93 : decode cX12_ports 93 = .ok (.iconst 0, 1) := by decide +kernel
theorem dX12_ports_94 : decode cX12_ports 94 = .ok (.ior, 1) := by decide +kernel
theorem dX12_ports_95 : decode cX12_ports 95 = .ok (.istore_n 2, 1) := by decide +kernel
theorem dX12_ports_96 : decode cX12_ports 96 = .ok (.iinc 3 1, 3) := by decide +kernel
theorem dX12_ports_99 : decode cX12_ports 99 = .ok (.goto (-34), 3) := by decide +kernel
theorem dX12_ports_102 : decode cX12_ports 102 = .ok (.iconst 0, 1) := by decide +kernel
theorem dX12_ports_103 : decode cX12_ports 103 = .ok (.istore_n 3, 1) := by decide +kernel
theorem dX12_ports_104 : decode cX12_ports 104 = .ok (.iload_n 3, 1) := by decide +kernel
theorem dX12_ports_105 : decode cX12_ports 105 = .ok (.aload_n 0, 1) := by decide +kernel
theorem dX12_ports_106 : decode cX12_ports 106 = .ok (.getfield 7, 3) := by decide +kernel
theorem dX12_ports_109 : decode cX12_ports 109 = .ok (.iconst 0, 1) := by decide +kernel
theorem dX12_ports_110 : decode cX12_ports 110 = .ok (.iaload, 1) := by decide +kernel
theorem dX12_ports_111 : decode cX12_ports 111 = .ok (.if_icmp .ge 23, 3) := by decide +kernel
theorem dX12_ports_114 : decode cX12_ports 114 = .ok (.iload_n 2, 1) := by decide +kernel
theorem dX12_ports_115 : decode cX12_ports 115 = .ok (.iload_n 3, 1) := by decide +kernel
theorem dX12_ports_116 : decode cX12_ports 116 = .ok (.ishr, 1) := by decide +kernel
theorem dX12_ports_117 : decode cX12_ports 117 = .ok (.iconst 1, 1) := by decide +kernel
theorem dX12_ports_118 : decode cX12_ports 118 = .ok (.iand, 1) := by decide +kernel
theorem dX12_ports_119 : decode cX12_ports 119 = .ok (.iconst 1, 1) := by decide +kernel
theorem dX12_ports_120 : decode cX12_ports 120 = .ok (.if_icmp .ne 8, 3) := by decide +kernel
theorem dX12_ports_123 : decode cX12_ports 123 = .ok (.aload_n 0, 1) := by decide +kernel
theorem dX12_ports_124 : decode cX12_ports 124 = .ok (.iload_n 3, 1) := by decide +kernel
theorem dX12_ports_125 : decode cX12_ports 125 = .ok (.invokevirtual 59, 3) := by decide +kernel
theorem dX12_ports_128 : decode cX12_ports 128 = .ok (.iinc 3 1, 3) := by decide +kernel
theorem dX12_ports_131 : decode cX12_ports 131 = .ok (.goto (-27), 3) := by decide +kernel
theorem dX12_ports_134 : decode cX12_ports 134 = .ok (.return_, 1) := by decide +kernel
theorem dX12_learns_0 : decode cX12_learns 0 = .ok (.aload_n 0, 1) := by decide +kernel
theorem dX12_learns_1 : decode cX12_learns 1 = .ok (.getfield 7, 3) := by decide +kernel
theorem dX12_learns_4 : decode cX12_learns 4 = .ok (.bipush 51, 2) := by decide +kernel
theorem dX12_learns_6 : decode cX12_learns 6 = .ok (.bipush 16, 2) := by decide +kernel
theorem dX12_learns_8 : decode cX12_learns 8 = .ok (.iload_n 1, 1) := by decide +kernel
theorem dX12_learns_9 : decode cX12_learns 9 = .ok (.imul, 1) := by decide +kernel
theorem dX12_learns_10 : decode cX12_learns 10 = .ok (.iadd, 1) := by decide +kernel
theorem dX12_learns_11 : decode cX12_learns 11 = .ok (.iconst 2, 1) := by decide +kernel
theorem dX12_learns_12 : decode cX12_learns 12 = .ok (.iload_n 2, 1) := by decide +kernel
theorem dX12_learns_13 : decode cX12_learns 13 = .ok (.imul, 1) := by decide +kernel
theorem dX12_learns_14 : decode cX12_learns 14 = .ok (.iadd, 1) := by decide +kernel
theorem dX12_learns_15 : decode cX12_learns 15 = .ok (.iload_n 3, 1) := by decide +kernel
theorem dX12_learns_16 : decode cX12_learns 16 = .ok (.iastore, 1) := by decide +kernel
theorem dX12_learns_17 : decode cX12_learns 17 = .ok (.aload_n 0, 1) := by decide +kernel
theorem dX12_learns_18 : decode cX12_learns 18 = .ok (.getfield 7, 3) := by decide +kernel
theorem dX12_learns_21 : decode cX12_learns 21 = .ok (.bipush 51, 2) := by decide +kernel
theorem dX12_learns_23 : decode cX12_learns 23 = .ok (.bipush 16, 2) := by decide +kernel
theorem dX12_learns_25 : decode cX12_learns 25 = .ok (.iload_n 1, 1) := by decide +kernel
theorem dX12_learns_26 : decode cX12_learns 26 = .ok (.imul, 1) := by decide +kernel
theorem dX12_learns_27 : decode cX12_learns 27 = .ok (.iadd, 1) := by decide +kernel
theorem dX12_learns_28 : decode cX12_learns 28 = .ok (.iconst 2, 1) := by decide +kernel
theorem dX12_learns_29 : decode cX12_learns 29 = .ok (.iload_n 2, 1) := by decide +kernel
theorem dX12_learns_30 : decode cX12_learns 30 = .ok (.imul, 1) := by decide +kernel
theorem dX12_learns_31 : decode cX12_learns 31 = .ok (.iadd, 1) := by decide +kernel
theorem dX12_learns_32 : decode cX12_learns 32 = .ok (.iconst 1, 1) := by decide +kernel
theorem dX12_learns_33 : decode cX12_learns 33 = .ok (.iadd, 1) := by decide +kernel
theorem dX12_learns_34 : decode cX12_learns 34 = .ok (.aload_n 0, 1) := by decide +kernel
theorem dX12_learns_35 : decode cX12_learns 35 = .ok (.getfield 7, 3) := by decide +kernel
theorem dX12_learns_38 : decode cX12_learns 38 = .ok (.iconst 1, 1) := by decide +kernel
theorem dX12_learns_39 : decode cX12_learns 39 = .ok (.iaload, 1) := by decide +kernel
theorem dX12_learns_40 : decode cX12_learns 40 = .ok (.iastore, 1) := by decide +kernel
theorem dX12_learns_41 : decode cX12_learns 41 = .ok (.return_, 1) := by decide +kernel
theorem dX12_entryOf_0 : decode cX12_entryOf 0 = .ok (.aload_n 0, 1) := by decide +kernel
theorem dX12_entryOf_1 : decode cX12_entryOf 1 = .ok (.getfield 7, 3) := by decide +kernel
theorem dX12_entryOf_4 : decode cX12_entryOf 4 = .ok (.bipush 51, 2) := by decide +kernel
theorem dX12_entryOf_6 : decode cX12_entryOf 6 = .ok (.bipush 16, 2) := by decide +kernel
theorem dX12_entryOf_8 : decode cX12_entryOf 8 = .ok (.iload_n 1, 1) := by decide +kernel
theorem dX12_entryOf_9 : decode cX12_entryOf 9 = .ok (.imul, 1) := by decide +kernel
theorem dX12_entryOf_10 : decode cX12_entryOf 10 = .ok (.iadd, 1) := by decide +kernel
theorem dX12_entryOf_11 : decode cX12_entryOf 11 = .ok (.iconst 2, 1) := by decide +kernel
theorem dX12_entryOf_12 : decode cX12_entryOf 12 = .ok (.iload_n 2, 1) := by decide +kernel
theorem dX12_entryOf_13 : decode cX12_entryOf 13 = .ok (.imul, 1) := by decide +kernel
theorem dX12_entryOf_14 : decode cX12_entryOf 14 = .ok (.iadd, 1) := by decide +kernel
theorem dX12_entryOf_15 : decode cX12_entryOf 15 = .ok (.iaload, 1) := by decide +kernel
theorem dX12_entryOf_16 : decode cX12_entryOf 16 = .ok (.istore_n 3, 1) := by decide +kernel
theorem dX12_entryOf_17 : decode cX12_entryOf 17 = .ok (.iload_n 3, 1) := by decide +kernel
theorem dX12_entryOf_18 : decode cX12_entryOf 18 = .ok (.iconst (-1), 1) := by decide +kernel
theorem dX12_entryOf_19 : decode cX12_entryOf 19 = .ok (.if_icmp .eq 37, 3) := by decide +kernel
theorem dX12_entryOf_22 : decode cX12_entryOf 22 = .ok (.aload_n 0, 1) := by decide +kernel
theorem dX12_entryOf_23 : decode cX12_entryOf 23 = .ok (.getfield 7, 3) := by decide +kernel
theorem dX12_entryOf_26 : decode cX12_entryOf 26 = .ok (.iconst 1, 1) := by decide +kernel
theorem dX12_entryOf_27 : decode cX12_entryOf 27 = .ok (.iaload, 1) := by decide +kernel
theorem dX12_entryOf_28 : decode cX12_entryOf 28 = .ok (.aload_n 0, 1) := by decide +kernel
theorem dX12_entryOf_29 : decode cX12_entryOf 29 = .ok (.getfield 7, 3) := by decide +kernel
theorem dX12_entryOf_32 : decode cX12_entryOf 32 = .ok (.bipush 51, 2) := by decide +kernel
theorem dX12_entryOf_34 : decode cX12_entryOf 34 = .ok (.bipush 16, 2) := by decide +kernel
theorem dX12_entryOf_36 : decode cX12_entryOf 36 = .ok (.iload_n 1, 1) := by decide +kernel
theorem dX12_entryOf_37 : decode cX12_entryOf 37 = .ok (.imul, 1) := by decide +kernel
theorem dX12_entryOf_38 : decode cX12_entryOf 38 = .ok (.iadd, 1) := by decide +kernel
theorem dX12_entryOf_39 : decode cX12_entryOf 39 = .ok (.iconst 2, 1) := by decide +kernel
theorem dX12_entryOf_40 : decode cX12_entryOf 40 = .ok (.iload_n 2, 1) := by decide +kernel
theorem dX12_entryOf_41 : decode cX12_entryOf 41 = .ok (.imul, 1) := by decide +kernel
theorem dX12_entryOf_42 : decode cX12_entryOf 42 = .ok (.iadd, 1) := by decide +kernel
theorem dX12_entryOf_43 : decode cX12_entryOf 43 = .ok (.iconst 1, 1) := by decide +kernel
theorem dX12_entryOf_44 : decode cX12_entryOf 44 = .ok (.iadd, 1) := by decide +kernel
theorem dX12_entryOf_45 : decode cX12_entryOf 45 = .ok (.iaload, 1) := by decide +kernel
theorem dX12_entryOf_46 : decode cX12_entryOf 46 = .ok (.isub, 1) := by decide +kernel
theorem dX12_entryOf_47 : decode cX12_entryOf 47 = .ok (.bipush 50, 2) := by decide +kernel
theorem dX12_entryOf_49 : decode cX12_entryOf 49 = .ok (.if_icmp .gt 7, 3) := by decide +kernel
theorem dX12_entryOf_52 : decode cX12_entryOf 52 = .ok (.iload_n 3, 1) := by decide +kernel
theorem dX12_entryOf_53 : decode cX12_entryOf 53 = .ok (.goto 4, 3) := by decide +kernel
theorem dX12_entryOf_56 : decode cX12_entryOf 56 = .ok (.iconst (-1), 1) := by decide +kernel
theorem dX12_entryOf_57 : decode cX12_entryOf 57 = .ok (.ireturn, 1) := by decide +kernel
theorem dX12_send_0 : decode cX12_send 0 = .ok (.iload_n 1, 1) := by decide +kernel
theorem dX12_send_1 : decode cX12_send 1 = .ok (.invokestatic 92, 3) := by decide +kernel
theorem dX12_send_4 : decode cX12_send 4 = .ok (.ifCond .eq 10, 3) := by decide +kernel
theorem dX12_send_7 : decode cX12_send 7 = .ok (.iload_n 2, 1) := by decide +kernel
theorem dX12_send_8 : decode cX12_send 8 = .ok (.invokestatic 92, 3) := by decide +kernel
theorem dX12_send_11 : decode cX12_send 11 = .ok (.ifCond .ne 9, 3) := by decide +kernel
theorem dX12_send_14 : decode cX12_send 14 = .ok (.aload_n 0, 1) := by decide +kernel
theorem dX12_send_15 : decode cX12_send 15 = .ok (.iconst 1, 1) := by decide +kernel
theorem dX12_send_16 : decode cX12_send 16 = .ok (.invokevirtual 70, 3) := by decide +kernel
theorem dX12_send_19 : decode cX12_send 19 = .ok (.ireturn, 1) := by decide +kernel
theorem dX12_send_20 : decode cX12_send 20 = .ok (.iload_n 1, 1) := by decide +kernel
theorem dX12_send_21 : decode cX12_send 21 = .ok (.iload_n 2, 1) := by decide +kernel
theorem dX12_send_22 : decode cX12_send 22 = .ok (.if_icmp .ne 9, 3) := by decide +kernel
theorem dX12_send_25 : decode cX12_send 25 = .ok (.aload_n 0, 1) := by decide +kernel
theorem dX12_send_26 : decode cX12_send 26 = .ok (.iconst 2, 1) := by decide +kernel
theorem dX12_send_27 : decode cX12_send 27 = .ok (.invokevirtual 70, 3) := by decide +kernel
theorem dX12_send_30 : decode cX12_send 30 = .ok (.ireturn, 1) := by decide +kernel
theorem dX12_send_31 : decode cX12_send 31 = .ok (.aload_n 0, 1) := by decide +kernel
theorem dX12_send_32 : decode cX12_send 32 = .ok (.invokevirtual 73, 3) := by decide +kernel
theorem dX12_send_35 : decode cX12_send 35 = .ok (.iconst 1, 1) := by decide +kernel
theorem dX12_send_36 : decode cX12_send 36 = .ok (.istore_n 3, 1) := by decide +kernel
theorem dX12_send_37 : decode cX12_send 37 = .ok (.iconst 1, 1) := by decide +kernel
theorem dX12_send_38 : decode cX12_send 38 = .ok (.aload_n 0, 1) := by decide +kernel
theorem dX12_send_39 : decode cX12_send 39 = .ok (.getfield 7, 3) := by decide +kernel
theorem dX12_send_42 : decode cX12_send 42 = .ok (.sipush 179, 3) := by decide +kernel
theorem dX12_send_45 : decode cX12_send 45 = .ok (.iload_n 1, 1) := by decide +kernel
theorem dX12_send_46 : decode cX12_send 46 = .ok (.iadd, 1) := by decide +kernel
theorem dX12_send_47 : decode cX12_send 47 = .ok (.iaload, 1) := by decide +kernel
theorem dX12_send_48 : decode cX12_send 48 = .ok (.ishl, 1) := by decide +kernel
theorem dX12_send_49 : decode cX12_send 49 = .ok (.istore 4, 2) := by decide +kernel
theorem dX12_send_51 : decode cX12_send 51 = .ok (.iconst 0, 1) := by decide +kernel
theorem dX12_send_52 : decode cX12_send 52 = .ok (.istore 5, 2) := by decide +kernel
theorem dX12_send_54 : decode cX12_send 54 = .ok (.iconst 0, 1) := by decide +kernel
theorem dX12_send_55 : decode cX12_send 55 = .ok (.istore 6, 2) := by decide +kernel
theorem dX12_send_57 : decode cX12_send 57 = .ok (.aload_n 0, 1) := by decide +kernel
theorem dX12_send_58 : decode cX12_send 58 = .ok (.getfield 25, 3) := by decide +kernel
theorem dX12_send_61 : decode cX12_send 61 = .ok (.iconst 0, 1) := by decide +kernel
theorem dX12_send_62 : decode cX12_send 62 = .ok (.aload_n 0, 1) := by decide +kernel
theorem dX12_send_63 : decode cX12_send 63 = .ok (.getfield 7, 3) := by decide +kernel
theorem dX12_send_66 : decode cX12_send 66 = .ok (.sipush 179, 3) := by decide +kernel
theorem dX12_send_69 : decode cX12_send 69 = .ok (.iload_n 1, 1) := by decide +kernel
theorem dX12_send_70 : decode cX12_send 70 = .ok (.iadd, 1) := by decide +kernel
theorem dX12_send_71 : decode cX12_send 71 = .ok (.iaload, 1) := by decide +kernel
theorem dX12_send_72 : decode cX12_send 72 = .ok (.iastore, 1) := by decide +kernel
theorem dX12_send_73 : decode cX12_send 73 = .ok (.aload_n 0, 1) := by decide +kernel
theorem dX12_send_74 : decode cX12_send 74 = .ok (.getfield 28, 3) := by decide +kernel
theorem dX12_send_77 : decode cX12_send 77 = .ok (.iconst 0, 1) := by decide +kernel
theorem dX12_send_78 : decode cX12_send 78 = .ok (.iconst (-1), 1) := by decide +kernel
theorem dX12_send_79 : decode cX12_send 79 = .ok (.iastore, 1) := by decide +kernel
theorem dX12_send_80 : decode cX12_send 80 = .ok (.aload_n 0, 1) := by decide +kernel
theorem dX12_send_81 : decode cX12_send 81 = .ok (.aload_n 0, 1) := by decide +kernel
theorem dX12_send_82 : decode cX12_send 82 = .ok (.getfield 25, 3) := by decide +kernel
theorem dX12_send_85 : decode cX12_send 85 = .ok (.iconst 0, 1) := by decide +kernel
theorem dX12_send_86 : decode cX12_send 86 = .ok (.iaload, 1) := by decide +kernel
theorem dX12_send_87 : decode cX12_send 87 = .ok (.iload_n 1, 1) := by decide +kernel
theorem dX12_send_88 : decode cX12_send 88 = .ok (.bipush 100, 2) := by decide +kernel
theorem dX12_send_90 : decode cX12_send 90 = .ok (.invokevirtual 167, 3) := by decide +kernel
theorem dX12_send_93 : decode cX12_send 93 = .ok (.iconst 0, 1) := by decide +kernel
theorem dX12_send_94 : decode cX12_send 94 = .ok (.istore 7, 2) := by decide +kernel
theorem dX12_send_96 : decode cX12_send 96 = .ok (.iload 7, 2) := by decide +kernel
theorem dX12_send_98 : decode cX12_send 98 = .ok (.iload_n 3, 1) := by decide +kernel
theorem dX12_send_99 : decode cX12_send 99 = .ok (.if_icmp .ge 236, 3) := by decide +kernel
theorem dX12_send_102 : decode cX12_send 102 = .ok (.aload_n 0, 1) := by decide +kernel
theorem dX12_send_103 : decode cX12_send 103 = .ok (.getfield 25, 3) := by decide +kernel
theorem dX12_send_106 : decode cX12_send 106 = .ok (.iload 7, 2) := by decide +kernel
theorem dX12_send_108 : decode cX12_send 108 = .ok (.iaload, 1) := by decide +kernel
theorem dX12_send_109 : decode cX12_send 109 = .ok (.istore 8, 2) := by decide +kernel
theorem dX12_send_111 : decode cX12_send 111 = .ok (.aload_n 0, 1) := by decide +kernel
theorem dX12_send_112 : decode cX12_send 112 = .ok (.iload 8, 2) := by decide +kernel
theorem dX12_send_114 : decode cX12_send 114 = .ok (.iload_n 2, 1) := by decide +kernel
theorem dX12_send_115 : decode cX12_send 115 = .ok (.invokevirtual 170, 3) := by decide +kernel
theorem dX12_send_118 : decode cX12_send 118 = .ok (.istore 9, 2) := by decide +kernel
theorem dX12_send_120 : decode cX12_send 120 = .ok (.iload 9, 2) := by decide +kernel
theorem dX12_send_122 : decode cX12_send 122 = .ok (.ifCond .lt 35, 3) := by decide +kernel
theorem dX12_send_125 : decode cX12_send 125 = .ok (.iload 9, 2) := by decide +kernel
theorem dX12_send_127 : decode cX12_send 127 = .ok (.bipush 100, 2) := by decide +kernel
theorem dX12_send_129 : decode cX12_send 129 = .ok (.if_icmp .ge 28, 3) := by decide +kernel
theorem dX12_send_132 : decode cX12_send 132 = .ok (.aload_n 0, 1) := by decide +kernel
theorem dX12_send_133 : decode cX12_send 133 = .ok (.iload 9, 2) := by decide +kernel
theorem dX12_send_135 : decode cX12_send 135 = .ok (.invokevirtual 66, 3) := by decide +kernel
theorem dX12_send_138 : decode cX12_send 138 = .ok (.ifCond .eq 19, 3) := by decide +kernel
theorem dX12_send_141 : decode cX12_send 141 = .ok (.iload 9, 2) := by decide +kernel
theorem dX12_send_143 : decode cX12_send 143 = .ok (.aload_n 0, 1) := by decide +kernel
theorem dX12_send_144 : decode cX12_send 144 = .ok (.getfield 28, 3) := by decide +kernel
theorem dX12_send_147 : decode cX12_send 147 = .ok (.iload 7, 2) := by decide +kernel
theorem dX12_send_149 : decode cX12_send 149 = .ok (.iaload, 1) := by decide +kernel
theorem dX12_send_150 : decode cX12_send 150 = .ok (.if_icmp .eq 7, 3) := by decide +kernel
theorem dX12_send_153 : decode cX12_send 153 = .ok (.iconst 1, 1) := by decide +kernel
theorem dX12_send_154 : decode cX12_send 154 = .ok (.goto 4, 3) := by decide +kernel
theorem dX12_send_157 : decode cX12_send 157 = .ok (.iconst 0, 1) := by decide +kernel
theorem dX12_send_158 : decode cX12_send 158 = .ok (.istore 10, 2) := by decide +kernel
theorem dX12_send_160 : decode cX12_send 160 = .ok (.aload_n 0, 1) := by decide +kernel
theorem dX12_send_161 : decode cX12_send 161 = .ok (.getfield 7, 3) := by decide +kernel
theorem dX12_send_164 : decode cX12_send 164 = .ok (.sipush 179, 3) := by decide +kernel
theorem dX12_send_167 : decode cX12_send 167 = .ok (.iload_n 2, 1) := by decide +kernel
theorem dX12_send_168 : decode cX12_send 168 = .ok (.iadd, 1) := by decide +kernel
theorem dX12_send_169 : decode cX12_send 169 = .ok (.iaload, 1) := by decide +kernel
theorem dX12_send_170 : decode cX12_send 170 = .ok (.iload 8, 2) := by decide +kernel
theorem dX12_send_172 : decode cX12_send 172 = .ok (.if_icmp .ne 7, 3) := by decide +kernel
theorem dX12_send_175 : decode cX12_send 175 = .ok (.iconst 1, 1) := by decide +kernel
theorem dX12_send_176 : decode cX12_send 176 = .ok (.goto 4, 3) := by decide +kernel
theorem dX12_send_179 : decode cX12_send 179 = .ok (.iconst 0, 1) := by decide +kernel
theorem dX12_send_180 : decode cX12_send 180 = .ok (.istore 11, 2) := by decide +kernel
theorem dX12_send_182 : decode cX12_send 182 = .ok (.iload 11, 2) := by decide +kernel
theorem dX12_send_184 : decode cX12_send 184 = .ok (.ifCond .eq 9, 3) := by decide +kernel
theorem dX12_send_187 : decode cX12_send 187 = .ok (.sipush 1000, 3) := by decide +kernel
theorem dX12_send_190 : decode cX12_send 190 = .ok (.goto 5, 3) := by decide +kernel
theorem dX12_send_193 : decode cX12_send 193 = .ok (.iload 6, 2) := by decide +kernel
theorem dX12_send_195 : decode cX12_send 195 = .ok (.istore 6, 2) := by decide +kernel
theorem dX12_send_197 : decode cX12_send 197 = .ok (.iconst 0, 1) := by decide +kernel
theorem dX12_send_198 : decode cX12_send 198 = .ok (.istore 12, 2) := by decide +kernel
theorem dX12_send_200 : decode cX12_send 200 = .ok (.iload 12, 2) := by decide +kernel
theorem dX12_send_202 : decode cX12_send 202 = .ok (.aload_n 0, 1) := by decide +kernel
theorem dX12_send_203 : decode cX12_send 203 = .ok (.getfield 7, 3) := by decide +kernel
theorem dX12_send_206 : decode cX12_send 206 = .ok (.iconst 5, 1) := by decide +kernel
theorem dX12_send_207 : decode cX12_send 207 = .ok (.iaload, 1) := by decide +kernel
theorem dX12_send_208 : decode cX12_send 208 = .ok (.if_icmp .ge 121, 3) := by decide +kernel
theorem dX12_send_211 : decode cX12_send 211 = .ok (.iload 11, 2) := by decide +kernel
theorem dX12_send_213 : decode cX12_send 213 = .ok (.ifCond .ne 116, 3) := by decide +kernel
theorem dX12_send_216 : decode cX12_send 216 = .ok (.aload_n 0, 1) := by decide +kernel
theorem dX12_send_217 : decode cX12_send 217 = .ok (.iload 12, 2) := by decide +kernel
theorem dX12_send_219 : decode cX12_send 219 = .ok (.iload 8, 2) := by decide +kernel
theorem dX12_send_221 : decode cX12_send 221 = .ok (.invokevirtual 149, 3) := by decide +kernel
theorem dX12_send_224 : decode cX12_send 224 = .ok (.ifCond .eq 99, 3) := by decide +kernel
theorem dX12_send_227 : decode cX12_send 227 = .ok (.aload_n 0, 1) := by decide +kernel
theorem dX12_send_228 : decode cX12_send 228 = .ok (.iload 12, 2) := by decide +kernel
theorem dX12_send_230 : decode cX12_send 230 = .ok (.invokevirtual 66, 3) := by decide +kernel
theorem dX12_send_233 : decode cX12_send 233 = .ok (.ifCond .eq 90, 3) := by decide +kernel
theorem dX12_send_236 : decode cX12_send 236 = .ok (.iload 10, 2) := by decide +kernel
theorem dX12_send_238 : decode cX12_send 238 = .ok (.ifCond .eq 13, 3) := by decide +kernel
theorem dX12_send_241 : decode cX12_send 241 = .ok (.iload 12, 2) := by decide +kernel
theorem dX12_send_243 : decode cX12_send 243 = .ok (.iload 9, 2) := by decide +kernel
theorem dX12_send_245 : decode cX12_send 245 = .ok (.if_icmp .ne 78, 3) := by decide +kernel
theorem dX12_send_248 : decode cX12_send 248 = .ok (.goto 15, 3) := by decide +kernel
theorem dX12_send_251 : decode cX12_send 251 = .ok (.iload 12, 2) := by decide +kernel
theorem dX12_send_253 : decode cX12_send 253 = .ok (.aload_n 0, 1) := by decide +kernel
theorem dX12_send_254 : decode cX12_send 254 = .ok (.getfield 28, 3) := by decide +kernel
theorem dX12_send_257 : decode cX12_send 257 = .ok (.iload 7, 2) := by decide +kernel
theorem dX12_send_259 : decode cX12_send 259 = .ok (.iaload, 1) := by decide +kernel
theorem dX12_send_260 : decode cX12_send 260 = .ok (.if_icmp .eq 63, 3) := by decide +kernel
theorem dX12_send_263 : decode cX12_send 263 = .ok (.aload_n 0, 1) := by decide +kernel
theorem dX12_send_264 : decode cX12_send 264 = .ok (.iload 12, 2) := by decide +kernel
theorem dX12_send_266 : decode cX12_send 266 = .ok (.iload 8, 2) := by decide +kernel
theorem dX12_send_268 : decode cX12_send 268 = .ok (.invokevirtual 146, 3) := by decide +kernel
theorem dX12_send_271 : decode cX12_send 271 = .ok (.istore 13, 2) := by decide +kernel
theorem dX12_send_273 : decode cX12_send 273 = .ok (.iinc 5 1, 3) := by decide +kernel
theorem dX12_send_276 : decode cX12_send 276 = .ok (.iload 4, 2) := by decide +kernel
theorem dX12_send_278 : decode cX12_send 278 = .ok (.iload 13, 2) := by decide +kernel
theorem dX12_send_280 : decode cX12_send 280 = .ok (.ishr, 1) := by decide +kernel
theorem dX12_send_281 : decode cX12_send 281 = .ok (.iconst 1, 1) := by decide +kernel
theorem dX12_send_282 : decode cX12_send 282 = .ok (.iand, 1) := by decide +kernel
theorem dX12_send_283 : decode cX12_send 283 = .ok (.ifCond .ne 40, 3) := by decide +kernel
theorem dX12_send_286 : decode cX12_send 286 = .ok (.iload 4, 2) := by decide +kernel
theorem dX12_send_288 : decode cX12_send 288 = .ok (.iconst 1, 1) := by decide +kernel
theorem dX12_send_289 : decode cX12_send 289 = .ok (.iload 13, 2) := by decide +kernel
theorem dX12_send_291 : decode cX12_send 291 = .ok (.ishl, 1) := by decide +kernel
theorem dX12_send_292 : decode cX12_send 292 = .ok (.ior, 1) := by decide +kernel
theorem dX12_send_293 : decode cX12_send 293 = .ok (.istore 4, 2) := by decide +kernel
theorem dX12_send_295 : decode cX12_send 295 = .ok (.aload_n 0, 1) := by decide +kernel
theorem dX12_send_296 : decode cX12_send 296 = .ok (.getfield 25, 3) := by decide +kernel
theorem dX12_send_299 : decode cX12_send 299 = .ok (.iload_n 3, 1) := by decide +kernel
theorem dX12_send_300 : decode cX12_send 300 = .ok (.iload 13, 2) := by decide +kernel
theorem dX12_send_302 : decode cX12_send 302 = .ok (.iastore, 1) := by decide +kernel
theorem dX12_send_303 : decode cX12_send 303 = .ok (.aload_n 0, 1) := by decide +kernel
theorem dX12_send_304 : decode cX12_send 304 = .ok (.getfield 28, 3) := by decide +kernel
theorem dX12_send_307 : decode cX12_send 307 = .ok (.iload_n 3, 1) := by decide +kernel
theorem dX12_send_308 : decode cX12_send 308 = .ok (.iload 12, 2) := by decide +kernel
theorem dX12_send_310 : decode cX12_send 310 = .ok (.iastore, 1) := by decide +kernel
theorem dX12_send_311 : decode cX12_send 311 = .ok (.iinc 3 1, 3) := by decide +kernel
theorem dX12_send_314 : decode cX12_send 314 = .ok (.aload_n 0, 1) := by decide +kernel
theorem dX12_send_315 : decode cX12_send 315 = .ok (.iload 13, 2) := by decide +kernel
theorem dX12_send_317 : decode cX12_send 317 = .ok (.iload_n 1, 1) := by decide +kernel
theorem dX12_send_318 : decode cX12_send 318 = .ok (.iload 12, 2) := by decide +kernel
theorem dX12_send_320 : decode cX12_send 320 = .ok (.invokevirtual 167, 3) := by decide +kernel
