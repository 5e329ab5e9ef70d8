theorem dX0_hold_0 : decode cX0_hold 0 = .ok (.aload_n 0, 1) := by decide +kernel
theorem dX0_hold_1 : decode cX0_hold 1 = .ok (.dup, 1) := by decide +kernel
theorem dX0_hold_2 : decode cX0_hold 2 = .ok (.getfield 9, 3) := by decide +kernel
theorem dX0_hold_5 : decode cX0_hold 5 = .ok (.iconst 1, 1) := by decide +kernel
theorem dX0_hold_6 : decode cX0_hold 6 = .ok (.iadd, 1) := by decide +kernel
theorem dX0_hold_7 : decode cX0_hold 7 = .ok (.putfield 9, 3) := by decide +kernel
theorem dX0_hold_10 : decode cX0_hold 10 = .ok (.iconst 0, 1) := by decide +kernel
theorem dX0_hold_11 : decode cX0_hold 11 = .ok (.istore_n 1, 1) := by decide +kernel
theorem dX0_hold_12 : decode cX0_hold 12 = .ok (.iload_n 1, 1) := by decide +kernel
theorem dX0_hold_13 : decode cX0_hold 13 = .ok (.iconst 4, 1) := by decide +kernel
theorem dX0_hold_14 : decode cX0_hold 14 = .ok (.if_icmp .ge 36, 3) := by decide +kernel
theorem dX0_hold_17 : decode cX0_hold 17 = .ok (.aload_n 0, 1) := by decide +kernel
theorem dX0_hold_18 : decode cX0_hold 18 = .ok (.getfield 15, 3) := by decide +kernel
theorem dX0_hold_21 : decode cX0_hold 21 = .ok (.getfield 19, 3) := by decide +kernel
theorem dX0_hold_24 : decode cX0_hold 24 = .ok (.iload_n 1, 1) := by decide +kernel
theorem dX0_hold_25 : decode cX0_hold 25 = .ok (.bipush 9, 2) := by decide +kernel
theorem dX0_hold_27 : decode cX0_hold 27 = .ok (.aload_n 0, 1) := by decide +kernel
theorem dX0_hold_28 : decode cX0_hold 28 = .ok (.getfield 15, 3) := by decide +kernel
theorem dX0_hold_31 : decode cX0_hold 31 = .ok (.getfield 19, 3) := by decide +kernel
theorem dX0_hold_34 : decode cX0_hold 34 = .ok (.iload_n 1, 1) := by decide +kernel
theorem dX0_hold_35 : decode cX0_hold 35 = .ok (.iaload, 1) := by decide +kernel
theorem dX0_hold_36 : decode cX0_hold 36 = .ok (.imul, 1) := by decide +kernel
theorem dX0_hold_37 : decode cX0_hold 37 = .ok (.bipush 10, 2) := by decide +kernel
theorem dX0_hold_39 : decode cX0_hold 39 = .ok (.idiv, 1) := by decide +kernel
theorem dX0_hold_40 : decode cX0_hold 40 = .ok (.bipush 20, 2) := by decide +kernel
theorem dX0_hold_42 : decode cX0_hold 42 = .ok (.iadd, 1) := by decide +kernel
theorem dX0_hold_43 : decode cX0_hold 43 = .ok (.iastore, 1) := by decide +kernel
theorem dX0_hold_44 : decode cX0_hold 44 = .ok (.iinc 1 1, 3) := by decide +kernel
theorem dX0_hold_47 : decode cX0_hold 47 = .ok (.goto (-35), 3) := by decide +kernel
theorem dX0_hold_50 : decode cX0_hold 50 = .ok (.iconst 0, 1) := by decide +kernel
theorem dX0_hold_51 : decode cX0_hold 51 = .ok (.istore_n 1, 1) := by decide +kernel
theorem dX0_hold_52 : decode cX0_hold 52 = .ok (.iload_n 1, 1) := by decide +kernel
theorem dX0_hold_53 : decode cX0_hold 53 = .ok (.aload_n 0, 1) := by decide +kernel
theorem dX0_hold_54 : decode cX0_hold 54 = .ok (.getfield 25, 3) := by decide +kernel
theorem dX0_hold_57 : decode cX0_hold 57 = .ok (.getfield 29, 3) := by decide +kernel
theorem dX0_hold_60 : decode cX0_hold 60 = .ok (.if_icmp .ge 21, 3) := by decide +kernel
theorem dX0_hold_63 : decode cX0_hold 63 = .ok (.aload_n 0, 1) := by decide +kernel
theorem dX0_hold_64 : decode cX0_hold 64 = .ok (.getfield 25, 3) := by decide +kernel
theorem dX0_hold_67 : decode cX0_hold 67 = .ok (.aload_n 0, 1) := by decide +kernel
theorem dX0_hold_68 : decode cX0_hold 68 = .ok (.getfield 15, 3) := by decide +kernel
theorem dX0_hold_71 : decode cX0_hold 71 = .ok (.iload_n 1, 1) := by decide +kernel
theorem dX0_hold_72 : decode cX0_hold 72 = .ok (.invokestatic 34, 3) := by decide +kernel
theorem dX0_hold_75 : decode cX0_hold 75 = .ok (.iinc 1 1, 3) := by decide +kernel
theorem dX0_hold_78 : decode cX0_hold 78 = .ok (.goto (-26), 3) := by decide +kernel
theorem dX0_hold_81 : decode cX0_hold 81 = .ok (.iconst 0, 1) := by decide +kernel
theorem dX0_hold_82 : decode cX0_hold 82 = .ok (.istore_n 1, 1) := by decide +kernel
theorem dX0_hold_83 : decode cX0_hold 83 = .ok (.iload_n 1, 1) := by decide +kernel
theorem dX0_hold_84 : decode cX0_hold 84 = .ok (.aload_n 0, 1) := by decide +kernel
theorem dX0_hold_85 : decode cX0_hold 85 = .ok (.getfield 25, 3) := by decide +kernel
theorem dX0_hold_88 : decode cX0_hold 88 = .ok (.getfield 29, 3) := by decide +kernel
theorem dX0_hold_91 : decode cX0_hold 91 = .ok (.if_icmp .ge 21, 3) := by decide +kernel
theorem dX0_hold_94 : decode cX0_hold 94 = .ok (.aload_n 0, 1) := by decide +kernel
theorem dX0_hold_95 : decode cX0_hold 95 = .ok (.getfield 25, 3) := by decide +kernel
theorem dX0_hold_98 : decode cX0_hold 98 = .ok (.iload_n 1, 1) := by decide +kernel
theorem dX0_hold_99 : decode cX0_hold 99 = .ok (.aload_n 0, 1) := by decide +kernel
theorem dX0_hold_100 : decode cX0_hold 100 = .ok (.getfield 40, 3) := by decide +kernel
theorem dX0_hold_103 : decode cX0_hold 103 = .ok (.invokestatic 43, 3) := by decide +kernel
theorem dX0_hold_106 : decode cX0_hold 106 = .ok (.iinc 1 1, 3) := by decide +kernel
theorem dX0_hold_109 : decode cX0_hold 109 = .ok (.goto (-26), 3) := by decide +kernel
theorem dX0_hold_112 : decode cX0_hold 112 = .ok (.return_, 1) := by decide +kernel
theorem dX0_sell_0 : decode cX0_sell 0 = .ok (.aload_n 0, 1) := by decide +kernel
theorem dX0_sell_1 : decode cX0_sell 1 = .ok (.getfield 47, 3) := by decide +kernel
theorem dX0_sell_4 : decode cX0_sell 4 = .ok (.iload_n 2, 1) := by decide +kernel
theorem dX0_sell_5 : decode cX0_sell 5 = .ok (.iconst (-1), 1) := by decide +kernel
theorem dX0_sell_6 : decode cX0_sell 6 = .ok (.iastore, 1) := by decide +kernel
theorem dX0_sell_7 : decode cX0_sell 7 = .ok (.aload_n 0, 1) := by decide +kernel
theorem dX0_sell_8 : decode cX0_sell 8 = .ok (.getfield 50, 3) := by decide +kernel
theorem dX0_sell_11 : decode cX0_sell 11 = .ok (.iload_n 2, 1) := by decide +kernel
theorem dX0_sell_12 : decode cX0_sell 12 = .ok (.iconst 0, 1) := by decide +kernel
theorem dX0_sell_13 : decode cX0_sell 13 = .ok (.iastore, 1) := by decide +kernel
theorem dX0_sell_14 : decode cX0_sell 14 = .ok (.aload_n 0, 1) := by decide +kernel
theorem dX0_sell_15 : decode cX0_sell 15 = .ok (.getfield 53, 3) := by decide +kernel
theorem dX0_sell_18 : decode cX0_sell 18 = .ok (.iload_n 2, 1) := by decide +kernel
theorem dX0_sell_19 : decode cX0_sell 19 = .ok (.baload, 1) := by decide +kernel
theorem dX0_sell_20 : decode cX0_sell 20 = .ok (.ifCond .ne 4, 3) := by decide +kernel
theorem dX0_sell_23 : decode cX0_sell 23 = .ok (.return_, 1) := by decide +kernel
theorem dX0_sell_24 : decode cX0_sell 24 = .ok (.iconst (-1), 1) := by decide +kernel
theorem dX0_sell_25 : decode cX0_sell 25 = .ok (.istore_n 3, 1) := by decide +kernel
theorem dX0_sell_26 : decode cX0_sell 26 = .ok (.iconst 0, 1) := by decide +kernel
theorem dX0_sell_27 : decode cX0_sell 27 = .ok (.istore 4, 2) := by decide +kernel
theorem dX0_sell_29 : decode cX0_sell 29 = .ok (.iconst 0, 1) := by decide +kernel
theorem dX0_sell_30 : decode cX0_sell 30 = .ok (.istore 5, 2) := by decide +kernel
theorem dX0_sell_32 : decode cX0_sell 32 = .ok (.iconst 0, 1) := by decide +kernel
theorem dX0_sell_33 : decode cX0_sell 33 = .ok (.istore 6, 2) := by decide +kernel
theorem dX0_sell_35 : decode cX0_sell 35 = .ok (.iload 6, 2) := by decide +kernel
theorem dX0_sell_37 : decode cX0_sell 37 = .ok (.iconst 4, 1) := by decide +kernel
theorem dX0_sell_38 : decode cX0_sell 38 = .ok (.if_icmp .ge 50, 3) := by decide +kernel
theorem dX0_sell_41 : decode cX0_sell 41 = .ok (.aload_n 1, 1) := by decide +kernel
theorem dX0_sell_42 : decode cX0_sell 42 = .ok (.iload 6, 2) := by decide +kernel
theorem dX0_sell_44 : decode cX0_sell 44 = .ok (.iload_n 2, 1) := by decide +kernel
theorem dX0_sell_45 : decode cX0_sell 45 = .ok (.invokevirtual 57, 3) := by decide +kernel
theorem dX0_sell_48 : decode cX0_sell 48 = .ok (.istore 7, 2) := by decide +kernel
theorem dX0_sell_50 : decode cX0_sell 50 = .ok (.iload 7, 2) := by decide +kernel
theorem dX0_sell_52 : decode cX0_sell 52 = .ok (.iload 4, 2) := by decide +kernel
theorem dX0_sell_54 : decode cX0_sell 54 = .ok (.if_icmp .le 17, 3) := by decide +kernel
theorem dX0_sell_57 : decode cX0_sell 57 = .ok (.iload 4, 2) := by decide +kernel
theorem dX0_sell_59 : decode cX0_sell 59 = .ok (.istore 5, 2) := by decide +kernel
theorem dX0_sell_61 : decode cX0_sell 61 = .ok (.iload 7, 2) := by decide +kernel
theorem dX0_sell_63 : decode cX0_sell 63 = .ok (.istore 4, 2) := by decide +kernel
theorem dX0_sell_65 : decode cX0_sell 65 = .ok (.iload 6, 2) := by decide +kernel
theorem dX0_sell_67 : decode cX0_sell 67 = .ok (.istore_n 3, 1) := by decide +kernel
theorem dX0_sell_68 : decode cX0_sell 68 = .ok (.goto 14, 3) := by decide +kernel
theorem dX0_sell_71 : decode cX0_sell 71 = .ok (.iload 7, 2) := by decide +kernel
theorem dX0_sell_73 : decode cX0_sell 73 = .ok (.iload 5, 2) := by decide +kernel
theorem dX0_sell_75 : decode cX0_sell 75 = .ok (.if_icmp .le 7, 3) := by decide +kernel
theorem dX0_sell_78 : decode cX0_sell 78 = .ok (.iload 7, 2) := by decide +kernel
theorem dX0_sell_80 : decode cX0_sell 80 = .ok (.istore 5, 2) := by decide +kernel
theorem dX0_sell_82 : decode cX0_sell 82 = .ok (.iinc 6 1, 3) := by decide +kernel
theorem dX0_sell_85 : decode cX0_sell 85 = .ok (.goto (-50), 3) := by decide +kernel
theorem dX0_sell_88 : decode cX0_sell 88 = .ok (.iload_n 3, 1) := by decide +kernel
theorem dX0_sell_89 : decode cX0_sell 89 = .ok (.iconst (-1), 1) := by decide +kernel
theorem dX0_sell_90 : decode cX0_sell 90 = .ok (.if_icmp .ne 4, 3) := by decide +kernel
theorem dX0_sell_93 : decode cX0_sell 93 = .ok (.return_, 1) := by decide +kernel
theorem dX0_sell_94 : decode cX0_sell 94 = .ok (.iload 5, 2) := by decide +kernel
theorem dX0_sell_96 : decode cX0_sell 96 = .ok (.ifCond .le 8, 3) := by decide +kernel
theorem dX0_sell_99 : decode cX0_sell 99 = .ok (.iload 5, 2) := by decide +kernel
theorem dX0_sell_101 : decode cX0_sell 101 = .ok (.goto 4, 3) := by decide +kernel
theorem dX0_sell_104 : decode cX0_sell 104 = .ok (.iconst 1, 1) := by decide +kernel
theorem dX0_sell_105 : decode cX0_sell 105 = .ok (.istore 6, 2) := by decide +kernel
theorem dX0_sell_107 : decode cX0_sell 107 = .ok (.aload_n 0, 1) := by decide +kernel
theorem dX0_sell_108 : decode cX0_sell 108 = .ok (.getfield 47, 3) := by decide +kernel
theorem dX0_sell_111 : decode cX0_sell 111 = .ok (.iload_n 2, 1) := by decide +kernel
theorem dX0_sell_112 : decode cX0_sell 112 = .ok (.iload_n 3, 1) := by decide +kernel
theorem dX0_sell_113 : decode cX0_sell 113 = .ok (.iastore, 1) := by decide +kernel
theorem dX0_sell_114 : decode cX0_sell 114 = .ok (.aload_n 0, 1) := by decide +kernel
theorem dX0_sell_115 : decode cX0_sell 115 = .ok (.getfield 50, 3) := by decide +kernel
theorem dX0_sell_118 : decode cX0_sell 118 = .ok (.iload_n 2, 1) := by decide +kernel
theorem dX0_sell_119 : decode cX0_sell 119 = .ok (.iload 6, 2) := by decide +kernel
theorem dX0_sell_121 : decode cX0_sell 121 = .ok (.iastore, 1) := by decide +kernel
theorem dX0_sell_122 : decode cX0_sell 122 = .ok (.aload_n 1, 1) := by decide +kernel
theorem dX0_sell_123 : decode cX0_sell 123 = .ok (.getfield 19, 3) := by decide +kernel
theorem dX0_sell_126 : decode cX0_sell 126 = .ok (.iload_n 3, 1) := by decide +kernel
theorem dX0_sell_127 : decode cX0_sell 127 = .ok (.dup2, 1) := by decide +kernel
theorem dX0_sell_128 : decode cX0_sell 128 = .ok (.iaload, 1) := by decide +kernel
theorem dX0_sell_129 : decode cX0_sell 129 = .ok (.iload 6, 2) := by decide +kernel
theorem dX0_sell_131 : decode cX0_sell 131 = .ok (.isub, 1) := by decide +kernel
theorem dX0_sell_132 : decode cX0_sell 132 = .ok (.iastore, 1) := by decide +kernel
theorem dX0_sell_133 : decode cX0_sell 133 = .ok (.aload_n 1, 1) := by decide +kernel
theorem dX0_sell_134 : decode cX0_sell 134 = .ok (.getfield 61, 3) := by decide +kernel
theorem dX0_sell_137 : decode cX0_sell 137 = .ok (.iload_n 3, 1) := by decide +kernel
theorem dX0_sell_138 : decode cX0_sell 138 = .ok (.dup2, 1) := by decide +kernel
theorem dX0_sell_139 : decode cX0_sell 139 = .ok (.iaload, 1) := by decide +kernel
theorem dX0_sell_140 : decode cX0_sell 140 = .ok (.iload 6, 2) := by decide +kernel
theorem dX0_sell_142 : decode cX0_sell 142 = .ok (.iadd, 1) := by decide +kernel
theorem dX0_sell_143 : decode cX0_sell 143 = .ok (.iastore, 1) := by decide +kernel
theorem dX0_sell_144 : decode cX0_sell 144 = .ok (.return_, 1) := by decide +kernel
theorem dX0_adjustCost_0 : decode cX0_adjustCost 0 = .ok (.aload_n 0, 1) := by decide +kernel
theorem dX0_adjustCost_1 : decode cX0_adjustCost 1 = .ok (.getfield 64, 3) := by decide +kernel
theorem dX0_adjustCost_4 : decode cX0_adjustCost 4 = .ok (.iload_n 1, 1) := by decide +kernel
theorem dX0_adjustCost_5 : decode cX0_adjustCost 5 = .ok (.iaload, 1) := by decide +kernel
theorem dX0_adjustCost_6 : decode cX0_adjustCost 6 = .ok (.aload_n 0, 1) := by decide +kernel
theorem dX0_adjustCost_7 : decode cX0_adjustCost 7 = .ok (.getfield 50, 3) := by decide +kernel
theorem dX0_adjustCost_10 : decode cX0_adjustCost 10 = .ok (.iload_n 1, 1) := by decide +kernel
theorem dX0_adjustCost_11 : decode cX0_adjustCost 11 = .ok (.iaload, 1) := by decide +kernel
theorem dX0_adjustCost_12 : decode cX0_adjustCost 12 = .ok (.iadd, 1) := by decide +kernel
theorem dX0_adjustCost_13 : decode cX0_adjustCost 13 = .ok (.istore_n 3, 1) := by decide +kernel
theorem dX0_adjustCost_14 : decode cX0_adjustCost 14 = .ok (.iload_n 3, 1) := by decide +kernel
theorem dX0_adjustCost_15 : decode cX0_adjustCost 15 = .ok (.aload_n 0, 1) := by decide +kernel
theorem dX0_adjustCost_16 : decode cX0_adjustCost 16 = .ok (.getfield 67, 3) := by decide +kernel
theorem dX0_adjustCost_19 : decode cX0_adjustCost 19 = .ok (.iload_n 1, 1) := by decide +kernel
theorem dX0_adjustCost_20 : decode cX0_adjustCost 20 = .ok (.iaload, 1) := by decide +kernel
theorem dX0_adjustCost_21 : decode cX0_adjustCost 21 = .ok (.isub, 1) := by decide +kernel
theorem dX0_adjustCost_22 : decode cX0_adjustCost 22 = .ok (.invokestatic 70, 3) := by decide +kernel
theorem dX0_adjustCost_25 : decode cX0_adjustCost 25 = .ok (.istore 4, 2) := by decide +kernel
theorem dX0_adjustCost_27 : decode cX0_adjustCost 27 = .ok (.aload_n 0, 1) := by decide +kernel
theorem dX0_adjustCost_28 : decode cX0_adjustCost 28 = .ok (.getfield 76, 3) := by decide +kernel
theorem dX0_adjustCost_31 : decode cX0_adjustCost 31 = .ok (.iload_n 1, 1) := by decide +kernel
theorem dX0_adjustCost_32 : decode cX0_adjustCost 32 = .ok (.iload 4, 2) := by decide +kernel
theorem dX0_adjustCost_34 : decode cX0_adjustCost 34 = .ok (.ifCond .ne 7, 3) := by decide +kernel
theorem dX0_adjustCost_37 : decode cX0_adjustCost 37 = .ok (.iconst 0, 1) := by decide +kernel
theorem dX0_adjustCost_38 : decode cX0_adjustCost 38 = .ok (.goto 11, 3) := by decide +kernel
theorem dX0_adjustCost_41 : decode cX0_adjustCost 41 = .ok (.aload_n 0, 1) := by decide +kernel
theorem dX0_adjustCost_42 : decode cX0_adjustCost 42 = .ok (.getfield 76, 3) := by decide +kernel
theorem dX0_adjustCost_45 : decode cX0_adjustCost 45 = .ok (.iload_n 1, 1) := by decide +kernel
theorem dX0_adjustCost_46 : decode cX0_adjustCost 46 = .ok (.iaload, 1) := by decide +kernel
theorem dX0_adjustCost_47 : decode cX0_adjustCost 47 = .ok (.iconst 1, 1) := by decide +kernel
theorem dX0_adjustCost_48 : decode cX0_adjustCost 48 = .ok (.iadd, 1) := by decide +kernel
theorem dX0_adjustCost_49 : decode cX0_adjustCost 49 = .ok (.iastore, 1) := by decide +kernel
theorem dX0_adjustCost_50 : decode cX0_adjustCost 50 = .ok (.iload 4, 2) := by decide +kernel
theorem dX0_adjustCost_52 : decode cX0_adjustCost 52 = .ok (.iload_n 2, 1) := by decide +kernel
theorem dX0_adjustCost_53 : decode cX0_adjustCost 53 = .ok (.if_icmp .gt 13, 3) := by decide +kernel
theorem dX0_adjustCost_56 : decode cX0_adjustCost 56 = .ok (.aload_n 0, 1) := by decide +kernel
theorem dX0_adjustCost_57 : decode cX0_adjustCost 57 = .ok (.getfield 76, 3) := by decide +kernel
theorem dX0_adjustCost_60 : decode cX0_adjustCost 60 = .ok (.iload_n 1, 1) := by decide +kernel
theorem dX0_adjustCost_61 : decode cX0_adjustCost 61 = .ok (.iaload, 1) := by decide +kernel
theorem dX0_adjustCost_62 : decode cX0_adjustCost 62 = .ok (.iconst 3, 1) := by decide +kernel
theorem dX0_adjustCost_63 : decode cX0_adjustCost 63 = .ok (.if_icmp .lt 17, 3) := by decide +kernel
theorem dX0_adjustCost_66 : decode cX0_adjustCost 66 = .ok (.aload_n 0, 1) := by decide +kernel
theorem dX0_adjustCost_67 : decode cX0_adjustCost 67 = .ok (.getfield 67, 3) := by decide +kernel
theorem dX0_adjustCost_70 : decode cX0_adjustCost 70 = .ok (.iload_n 1, 1) := by decide +kernel
theorem dX0_adjustCost_71 : decode cX0_adjustCost 71 = .ok (.iload_n 3, 1) := by decide +kernel
theorem dX0_adjustCost_72 : decode cX0_adjustCost 72 = .ok (.iastore, 1) := by decide +kernel
theorem dX0_adjustCost_73 : decode cX0_adjustCost 73 = .ok (.aload_n 0, 1) := by decide +kernel
theorem dX0_adjustCost_74 : decode cX0_adjustCost 74 = .ok (.getfield 76, 3) := by decide +kernel
theorem dX0_adjustCost_77 : decode cX0_adjustCost 77 = .ok (.iload_n 1, 1) := by decide +kernel
theorem dX0_adjustCost_78 : decode cX0_adjustCost 78 = .ok (.iconst 0, 1) := by decide +kernel
theorem dX0_adjustCost_79 : decode cX0_adjustCost 79 = .ok (.iastore, 1) := by decide +kernel
theorem dX0_adjustCost_80 : decode cX0_adjustCost 80 = .ok (.return_, 1) := by decide +kernel
theorem dX1_init_0 : decode cX1_init 0 = .ok (.aload_n 0, 1) := by decide +kernel
theorem dX1_init_1 : decode cX1_init 1 = .ok (.invokespecial 3, 3) := by decide +kernel
theorem dX1_init_4 : decode cX1_init 4 = .ok (.aload_n 0, 1) := by decide +kernel
theorem dX1_init_5 : decode cX1_init 5 = .ok (.bipush 8, 2) := by decide +kernel
theorem dX1_init_7 : decode cX1_init 7 = .ok (.newarray .int, 2) := by decide +kernel
theorem dX1_init_9 : decode cX1_init 9 = .ok (.putfield 9, 3) := by decide +kernel
theorem dX1_init_12 : decode cX1_init 12 = .ok (.aload_n 0, 1) := by decide +kernel
theorem dX1_init_13 : decode cX1_init 13 = .ok (.bipush 8, 2) := by decide +kernel
theorem dX1_init_15 : decode cX1_init 15 = .ok (.newarray .int, 2) := by decide +kernel
theorem dX1_init_17 : decode cX1_init 17 = .ok (.putfield 15, 3) := by decide +kernel
theorem dX1_init_20 : decode cX1_init 20 = .ok (.aload_n 0, 1) := by decide +kernel
theorem dX1_init_21 : decode cX1_init 21 = .ok (.bipush 8, 2) := by decide +kernel
theorem dX1_init_23 : decode cX1_init 23 = .ok (.newarray .int, 2) := by decide +kernel
theorem dX1_init_25 : decode cX1_init 25 = .ok (.putfield 18, 3) := by decide +kernel
theorem dX1_init_28 : decode cX1_init 28 = .ok (.aload_n 0, 1) := by decide +kernel
theorem dX1_init_29 : decode cX1_init 29 = .ok (.bipush 8, 2) := by decide +kernel
theorem dX1_init_31 : decode cX1_init 31 = .ok (.newarray .int, 2) := by decide +kernel
theorem dX1_init_33 : decode cX1_init 33 = .ok (.putfield 21, 3) := by decide +kernel
theorem dX1_init_36 : decode cX1_init 36 = .ok (.aload_n 0, 1) := by decide +kernel
theorem dX1_init_37 : decode cX1_init 37 = .ok (.bipush 8, 2) := by decide +kernel
theorem dX1_init_39 : decode cX1_init 39 = .ok (.newarray .int, 2) := by decide +kernel
theorem dX1_init_41 : decode cX1_init 41 = .ok (.putfield 24, 3) := by decide +kernel
theorem dX1_init_44 : decode cX1_init 44 = .ok (.aload_n 0, 1) := by decide +kernel
theorem dX1_init_45 : decode cX1_init 45 = .ok (.bipush 8, 2) := by decide +kernel
theorem dX1_init_47 : decode cX1_init 47 = .ok (.newarray .int, 2) := by decide +kernel
theorem dX1_init_49 : decode cX1_init 49 = .ok (.putfield 27, 3) := by decide +kernel
theorem dX1_init_52 : decode cX1_init 52 = .ok (.aload_n 0, 1) := by decide +kernel
theorem dX1_init_53 : decode cX1_init 53 = .ok (.bipush 64, 2) := by decide +kernel
theorem dX1_init_55 : decode cX1_init 55 = .ok (.newarray .int, 2) := by decide +kernel
theorem dX1_init_57 : decode cX1_init 57 = .ok (.putfield 30, 3) := by decide +kernel
theorem dX1_init_60 : decode cX1_init 60 = .ok (.aload_n 0, 1) := by decide +kernel
theorem dX1_init_61 : decode cX1_init 61 = .ok (.bipush 64, 2) := by decide +kernel
theorem dX1_init_63 : decode cX1_init 63 = .ok (.newarray .int, 2) := by decide +kernel
theorem dX1_init_65 : decode cX1_init 65 = .ok (.putfield 33, 3) := by decide +kernel
theorem dX1_init_68 : decode cX1_init 68 = .ok (.return_, 1) := by decide +kernel
theorem dX1_beginAnew_0 : decode cX1_beginAnew 0 = .ok (.iconst 0, 1) := by decide +kernel
theorem dX1_beginAnew_1 : decode cX1_beginAnew 1 = .ok (.istore_n 2, 1) := by decide +kernel
theorem dX1_beginAnew_2 : decode cX1_beginAnew 2 = .ok (.iload_n 2, 1) := by decide +kernel
theorem dX1_beginAnew_3 : decode cX1_beginAnew 3 = .ok (.bipush 8, 2) := by decide +kernel
theorem dX1_beginAnew_5 : decode cX1_beginAnew 5 = .ok (.if_icmp .ge 26, 3) := by decide +kernel
theorem dX1_beginAnew_8 : decode cX1_beginAnew 8 = .ok (.aload_n 0, 1) := by decide +kernel
theorem dX1_beginAnew_9 : decode cX1_beginAnew 9 = .ok (.getfield 9, 3) := by decide +kernel
theorem dX1_beginAnew_12 : decode cX1_beginAnew 12 = .ok (.iload_n 2, 1) := by decide +kernel
theorem dX1_beginAnew_13 : decode cX1_beginAnew 13 = .ok (.iconst 5, 1) := by decide +kernel
theorem dX1_beginAnew_14 : decode cX1_beginAnew 14 = .ok (.iastore, 1) := by decide +kernel
theorem dX1_beginAnew_15 : decode cX1_beginAnew 15 = .ok (.aload_n 0, 1) := by decide +kernel
theorem dX1_beginAnew_16 : decode cX1_beginAnew 16 = .ok (.iload_n 2, 1) := by decide +kernel
theorem dX1_beginAnew_17 : decode cX1_beginAnew 17 = .ok (.invokevirtual 36, 3) := by decide +kernel
theorem dX1_beginAnew_20 : decode cX1_beginAnew 20 = .ok (.aload_n 0, 1) := by decide +kernel
theorem dX1_beginAnew_21 : decode cX1_beginAnew 21 = .ok (.iload_n 2, 1) := by decide +kernel
theorem dX1_beginAnew_22 : decode cX1_beginAnew 22 = .ok (.invokevirtual 40, 3) := by decide +kernel
theorem dX1_beginAnew_25 : decode cX1_beginAnew 25 = .ok (.iinc 2 1, 3) := by decide +kernel
theorem dX1_beginAnew_28 : decode cX1_beginAnew 28 = .ok (.goto (-26), 3) := by decide +kernel
theorem dX1_beginAnew_31 : decode cX1_beginAnew 31 = .ok (.iconst 0, 1) := by decide +kernel
theorem dX1_beginAnew_32 : decode cX1_beginAnew 32 = .ok (.istore_n 2, 1) := by decide +kernel
theorem dX1_beginAnew_33 : decode cX1_beginAnew 33 = .ok (.iload_n 2, 1) := by decide +kernel
theorem dX1_beginAnew_34 : decode cX1_beginAnew 34 = .ok (.bipush 8, 2) := by decide +kernel
theorem dX1_beginAnew_36 : decode cX1_beginAnew 36 = .ok (.if_icmp .ge 26, 3) := by decide +kernel
theorem dX1_beginAnew_39 : decode cX1_beginAnew 39 = .ok (.aload_n 0, 1) := by decide +kernel
theorem dX1_beginAnew_40 : decode cX1_beginAnew 40 = .ok (.getfield 27, 3) := by decide +kernel
theorem dX1_beginAnew_43 : decode cX1_beginAnew 43 = .ok (.iload_n 2, 1) := by decide +kernel
theorem dX1_beginAnew_44 : decode cX1_beginAnew 44 = .ok (.iload_n 1, 1) := by decide +kernel
theorem dX1_beginAnew_45 : decode cX1_beginAnew 45 = .ok (.ifCond .le 9, 3) := by decide +kernel
theorem dX1_beginAnew_48 : decode cX1_beginAnew 48 = .ok (.iload_n 2, 1) := by decide +kernel
theorem dX1_beginAnew_49 : decode cX1_beginAnew 49 = .ok (.iload_n 1, 1) := by decide +kernel
theorem dX1_beginAnew_50 : decode cX1_beginAnew 50 = .ok (.irem, 1) := by decide +kernel
theorem dX1_beginAnew_51 : decode cX1_beginAnew 51 = .ok (.goto 4, 3) := by decide +kernel
theorem dX1_beginAnew_54 : decode cX1_beginAnew 54 = .ok (.iconst 0, 1) := by decide +kernel
theorem dX1_beginAnew_55 : decode cX1_beginAnew 55 = .ok (.iastore, 1) := by decide +kernel
theorem dX1_beginAnew_56 : decode cX1_beginAnew 56 = .ok (.iinc 2 1, 3) := by decide +kernel
theorem dX1_beginAnew_59 : decode cX1_beginAnew 59 = .ok (.goto (-26), 3) := by decide +kernel
theorem dX1_beginAnew_62 : decode cX1_beginAnew 62 = .ok (.return_, 1) := by decide +kernel
theorem dX1_copyFrom_0 : decode cX1_copyFrom 0 = .ok (.aload_n 1, 1) := by decide +kernel
theorem dX1_copyFrom_1 : decode cX1_copyFrom 1 = .ok (.getfield 9, 3) := by decide +kernel
theorem dX1_copyFrom_4 : decode cX1_copyFrom 4 = .ok (.iconst 0, 1) := by decide +kernel
theorem dX1_copyFrom_5 : decode cX1_copyFrom 5 = .ok (.aload_n 0, 1) := by decide +kernel
theorem dX1_copyFrom_6 : decode cX1_copyFrom 6 = .ok (.getfield 9, 3) := by decide +kernel
theorem dX1_copyFrom_9 : decode cX1_copyFrom 9 = .ok (.iconst 0, 1) := by decide +kernel
theorem dX1_copyFrom_10 : decode cX1_copyFrom 10 = .ok (.bipush 8, 2) := by decide +kernel
theorem dX1_copyFrom_12 : decode cX1_copyFrom 12 = .ok (.invokestatic 43, 3) := by decide +kernel
theorem dX1_copyFrom_15 : decode cX1_copyFrom 15 = .ok (.aload_n 1, 1) := by decide +kernel
theorem dX1_copyFrom_16 : decode cX1_copyFrom 16 = .ok (.getfield 15, 3) := by decide +kernel
theorem dX1_copyFrom_19 : decode cX1_copyFrom 19 = .ok (.iconst 0, 1) := by decide +kernel
theorem dX1_copyFrom_20 : decode cX1_copyFrom 20 = .ok (.aload_n 0, 1) := by decide +kernel
theorem dX1_copyFrom_21 : decode cX1_copyFrom 21 = .ok (.getfield 15, 3) := by decide +kernel
theorem dX1_copyFrom_24 : decode cX1_copyFrom 24 = .ok (.iconst 0, 1) := by decide +kernel
theorem dX1_copyFrom_25 : decode cX1_copyFrom 25 = .ok (.bipush 8, 2) := by decide +kernel
theorem dX1_copyFrom_27 : decode cX1_copyFrom 27 = .ok (.invokestatic 43, 3) := by decide +kernel
theorem dX1_copyFrom_30 : decode cX1_copyFrom 30 = .ok (.aload_n 1, 1) := by decide +kernel
theorem dX1_copyFrom_31 : decode cX1_copyFrom 31 = .ok (.getfield 18, 3) := by decide +kernel
theorem dX1_copyFrom_34 : decode cX1_copyFrom 34 = .ok (.iconst 0, 1) := by decide +kernel
theorem dX1_copyFrom_35 : decode cX1_copyFrom 35 = .ok (.aload_n 0, 1) := by decide +kernel
theorem dX1_copyFrom_36 : decode cX1_copyFrom 36 = .ok (.getfield 18, 3) := by decide +kernel
theorem dX1_copyFrom_39 : decode cX1_copyFrom 39 = .ok (.iconst 0, 1) := by decide +kernel
theorem dX1_copyFrom_40 : decode cX1_copyFrom 40 = .ok (.bipush 8, 2) := by decide +kernel
theorem dX1_copyFrom_42 : decode cX1_copyFrom 42 = .ok (.invokestatic 43, 3) := by decide +kernel
theorem dX1_copyFrom_45 : decode cX1_copyFrom 45 = .ok (.aload_n 1, 1) := by decide +kernel
theorem dX1_copyFrom_46 : decode cX1_copyFrom 46 = .ok (.getfield 21, 3) := by decide +kernel
theorem dX1_copyFrom_49 : decode cX1_copyFrom 49 = .ok (.iconst 0, 1) := by decide +kernel
theorem dX1_copyFrom_50 : decode cX1_copyFrom 50 = .ok (.aload_n 0, 1) := by decide +kernel
theorem dX1_copyFrom_51 : decode cX1_copyFrom 51 = .ok (.getfield 21, 3) := by decide +kernel
theorem dX1_copyFrom_54 : decode cX1_copyFrom 54 = .ok (.iconst 0, 1) := by decide +kernel
theorem dX1_copyFrom_55 : decode cX1_copyFrom 55 = .ok (.bipush 8, 2) := by decide +kernel
theorem dX1_copyFrom_57 : decode cX1_copyFrom 57 = .ok (.invokestatic 43, 3) := by decide +kernel
theorem dX1_copyFrom_60 : decode cX1_copyFrom 60 = .ok (.aload_n 1, 1) := by decide +kernel
theorem dX1_copyFrom_61 : decode cX1_copyFrom 61 = .ok (.getfield 24, 3) := by decide +kernel
theorem dX1_copyFrom_64 : decode cX1_copyFrom 64 = .ok (.iconst 0, 1) := by decide +kernel
theorem dX1_copyFrom_65 : decode cX1_copyFrom 65 = .ok (.aload_n 0, 1) := by decide +kernel
theorem dX1_copyFrom_66 : decode cX1_copyFrom 66 = .ok (.getfield 24, 3) := by decide +kernel
theorem dX1_copyFrom_69 : decode cX1_copyFrom 69 = .ok (.iconst 0, 1) := by decide +kernel
theorem dX1_copyFrom_70 : decode cX1_copyFrom 70 = .ok (.bipush 8, 2) := by decide +kernel
theorem dX1_copyFrom_72 : decode cX1_copyFrom 72 = .ok (.invokestatic 43, 3) := by decide +kernel
theorem dX1_copyFrom_75 : decode cX1_copyFrom 75 = .ok (.aload_n 1, 1) := by decide +kernel
theorem dX1_copyFrom_76 : decode cX1_copyFrom 76 = .ok (.getfield 27, 3) := by decide +kernel
theorem dX1_copyFrom_79 : decode cX1_copyFrom 79 = .ok (.iconst 0, 1) := by decide +kernel
theorem dX1_copyFrom_80 : decode cX1_copyFrom 80 = .ok (.aload_n 0, 1) := by decide +kernel
theorem dX1_copyFrom_81 : decode cX1_copyFrom 81 = .ok (.getfield 27, 3) := by decide +kernel
theorem dX1_copyFrom_84 : decode cX1_copyFrom 84 = .ok (.iconst 0, 1) := by decide +kernel
theorem dX1_copyFrom_85 : decode cX1_copyFrom 85 = .ok (.bipush 8, 2) := by decide +kernel
theorem dX1_copyFrom_87 : decode cX1_copyFrom 87 = .ok (.invokestatic 43, 3) := by decide +kernel
theorem dX1_copyFrom_90 : decode cX1_copyFrom 90 = .ok (.aload_n 1, 1) := by decide +kernel
theorem dX1_copyFrom_91 : decode cX1_copyFrom 91 = .ok (.getfield 30, 3) := by decide +kernel
theorem dX1_copyFrom_94 : decode cX1_copyFrom 94 = .ok (.iconst 0, 1) := by decide +kernel
theorem dX1_copyFrom_95 : decode cX1_copyFrom 95 = .ok (.aload_n 0, 1) := by decide +kernel
theorem dX1_copyFrom_96 : decode cX1_copyFrom 96 = .ok (.getfield 30, 3) := by decide +kernel
theorem dX1_copyFrom_99 : decode cX1_copyFrom 99 = .ok (.iconst 0, 1) := by decide +kernel
theorem dX1_copyFrom_100 : decode cX1_copyFrom 100 = .ok (.bipush 64, 2) := by decide +kernel
theorem dX1_copyFrom_102 : decode cX1_copyFrom 102 = .ok (.invokestatic 43, 3) := by decide +kernel
theorem dX1_copyFrom_105 : decode cX1_copyFrom 105 = .ok (.aload_n 1, 1) := by decide +kernel
theorem dX1_copyFrom_106 : decode cX1_copyFrom 106 = .ok (.getfield 33, 3) := by decide +kernel
theorem dX1_copyFrom_109 : decode cX1_copyFrom 109 = .ok (.iconst 0, 1) := by decide +kernel
theorem dX1_copyFrom_110 : decode cX1_copyFrom 110 = .ok (.aload_n 0, 1) := by decide +kernel
theorem dX1_copyFrom_111 : decode cX1_copyFrom 111 = .ok (.getfield 33, 3) := by decide +kernel
theorem dX1_copyFrom_114 : decode cX1_copyFrom 114 = .ok (.iconst 0, 1) := by decide +kernel
theorem dX1_copyFrom_115 : decode cX1_copyFrom 115 = .ok (.bipush 64, 2) := by decide +kernel
theorem dX1_copyFrom_117 : decode cX1_copyFrom 117 = .ok (.invokestatic 43, 3) := by decide +kernel
theorem dX1_copyFrom_120 : decode cX1_copyFrom 120 = .ok (.return_, 1) := by decide +kernel
theorem dX1_idOf_0 : decode cX1_idOf 0 = .ok (.bipush 10, 2) := by decide +kernel
theorem dX1_idOf_2 : decode cX1_idOf 2 = .ok (.aload_n 0, 1) := by decide +kernel
theorem dX1_idOf_3 : decode cX1_idOf 3 = .ok (.getfield 9, 3) := by decide +kernel
theorem dX1_idOf_6 : decode cX1_idOf 6 = .ok (.iload_n 1, 1) := by decide +kernel
theorem dX1_idOf_7 : decode cX1_idOf 7 = .ok (.iaload, 1) := by decide +kernel
theorem dX1_idOf_8 : decode cX1_idOf 8 = .ok (.imul, 1) := by decide +kernel
theorem dX1_idOf_9 : decode cX1_idOf 9 = .ok (.iload_n 1, 1) := by decide +kernel
theorem dX1_idOf_10 : decode cX1_idOf 10 = .ok (.iadd, 1) := by decide +kernel
theorem dX1_idOf_11 : decode cX1_idOf 11 = .ok (.ireturn, 1) := by decide +kernel
theorem dX1_startVector_0 : decode cX1_startVector 0 = .ok (.aload_n 0, 1) := by decide +kernel
theorem dX1_startVector_1 : decode cX1_startVector 1 = .ok (.getfield 15, 3) := by decide +kernel
theorem dX1_startVector_4 : decode cX1_startVector 4 = .ok (.iload_n 1, 1) := by decide +kernel
theorem dX1_startVector_5 : decode cX1_startVector 5 = .ok (.aload_n 0, 1) := by decide +kernel
theorem dX1_startVector_6 : decode cX1_startVector 6 = .ok (.iload_n 1, 1) := by decide +kernel
theorem dX1_startVector_7 : decode cX1_startVector 7 = .ok (.invokevirtual 49, 3) := by decide +kernel
theorem dX1_startVector_10 : decode cX1_startVector 10 = .ok (.iastore, 1) := by decide +kernel
theorem dX1_startVector_11 : decode cX1_startVector 11 = .ok (.aload_n 0, 1) := by decide +kernel
theorem dX1_startVector_12 : decode cX1_startVector 12 = .ok (.getfield 18, 3) := by decide +kernel
theorem dX1_startVector_15 : decode cX1_startVector 15 = .ok (.iload_n 1, 1) := by decide +kernel
theorem dX1_startVector_16 : decode cX1_startVector 16 = .ok (.iconst 0, 1) := by decide +kernel
theorem dX1_startVector_17 : decode cX1_startVector 17 = .ok (.iastore, 1) := by decide +kernel
theorem dX1_startVector_18 : decode cX1_startVector 18 = .ok (.aload_n 0, 1) := by decide +kernel
theorem dX1_startVector_19 : decode cX1_startVector 19 = .ok (.getfield 21, 3) := by decide +kernel
theorem dX1_startVector_22 : decode cX1_startVector 22 = .ok (.iload_n 1, 1) := by decide +kernel
theorem dX1_startVector_23 : decode cX1_startVector 23 = .ok (.iconst 0, 1) := by decide +kernel
theorem dX1_startVector_24 : decode cX1_startVector 24 = .ok (.iastore, 1) := by decide +kernel
theorem dX1_startVector_25 : decode cX1_startVector 25 = .ok (.aload_n 0, 1) := by decide +kernel
theorem dX1_startVector_26 : decode cX1_startVector 26 = .ok (.getfield 24, 3) := by decide +kernel
theorem dX1_startVector_29 : decode cX1_startVector 29 = .ok (.iload_n 1, 1) := by decide +kernel
theorem dX1_startVector_30 : decode cX1_startVector 30 = .ok (.iconst (-1), 1) := by decide +kernel
theorem dX1_startVector_31 : decode cX1_startVector 31 = .ok (.iastore, 1) := by decide +kernel
theorem dX1_startVector_32 : decode cX1_startVector 32 = .ok (.return_, 1) := by decide +kernel
theorem dX1_changePriority_0 : decode cX1_changePriority 0 = .ok (.aload_n 0, 1) := by decide +kernel
theorem dX1_changePriority_1 : decode cX1_changePriority 1 = .ok (.getfield 9, 3) := by decide +kernel
theorem dX1_changePriority_4 : decode cX1_changePriority 4 = .ok (.iload_n 1, 1) := by decide +kernel
theorem dX1_changePriority_5 : decode cX1_changePriority 5 = .ok (.iaload, 1) := by decide +kernel
theorem dX1_changePriority_6 : decode cX1_changePriority 6 = .ok (.istore_n 3, 1) := by decide +kernel
theorem dX1_changePriority_7 : decode cX1_changePriority 7 = .ok (.aload_n 0, 1) := by decide +kernel
theorem dX1_changePriority_8 : decode cX1_changePriority 8 = .ok (.getfield 9, 3) := by decide +kernel
theorem dX1_changePriority_11 : decode cX1_changePriority 11 = .ok (.iload_n 1, 1) := by decide +kernel
theorem dX1_changePriority_12 : decode cX1_changePriority 12 = .ok (.iload_n 2, 1) := by decide +kernel
theorem dX1_changePriority_13 : decode cX1_changePriority 13 = .ok (.iastore, 1) := by decide +kernel
theorem dX1_changePriority_14 : decode cX1_changePriority 14 = .ok (.aload_n 0, 1) := by decide +kernel
theorem dX1_changePriority_15 : decode cX1_changePriority 15 = .ok (.iload_n 1, 1) := by decide +kernel
theorem dX1_changePriority_16 : decode cX1_changePriority 16 = .ok (.invokevirtual 36, 3) := by decide +kernel
theorem dX1_changePriority_19 : decode cX1_changePriority 19 = .ok (.iload_n 3, 1) := by decide +kernel
theorem dX1_changePriority_20 : decode cX1_changePriority 20 = .ok (.ireturn, 1) := by decide +kernel
theorem dX1_placeHost_0 : decode cX1_placeHost 0 = .ok (.aload_n 0, 1) := by decide +kernel
theorem dX1_placeHost_1 : decode cX1_placeHost 1 = .ok (.getfield 27, 3) := by decide +kernel
theorem dX1_placeHost_4 : decode cX1_placeHost 4 = .ok (.iload_n 1, 1) := by decide +kernel
theorem dX1_placeHost_5 : decode cX1_placeHost 5 = .ok (.iaload, 1) := by decide +kernel
theorem dX1_placeHost_6 : decode cX1_placeHost 6 = .ok (.istore_n 3, 1) := by decide +kernel
theorem dX1_placeHost_7 : decode cX1_placeHost 7 = .ok (.aload_n 0, 1) := by decide +kernel
theorem dX1_placeHost_8 : decode cX1_placeHost 8 = .ok (.getfield 27, 3) := by decide +kernel
theorem dX1_placeHost_11 : decode cX1_placeHost 11 = .ok (.iload_n 1, 1) := by decide +kernel
theorem dX1_placeHost_12 : decode cX1_placeHost 12 = .ok (.iload_n 2, 1) := by decide +kernel
theorem dX1_placeHost_13 : decode cX1_placeHost 13 = .ok (.iastore, 1) := by decide +kernel
theorem dX1_placeHost_14 : decode cX1_placeHost 14 = .ok (.iload_n 3, 1) := by decide +kernel
theorem dX1_placeHost_15 : decode cX1_placeHost 15 = .ok (.ireturn, 1) := by decide +kernel
theorem dX1_makeEntry_0 : decode cX1_makeEntry 0 = .ok (.aload_n 0, 1) := by decide +kernel
theorem dX1_makeEntry_1 : decode cX1_makeEntry 1 = .ok (.getfield 30, 3) := by decide +kernel
theorem dX1_makeEntry_4 : decode cX1_makeEntry 4 = .ok (.iload_n 1, 1) := by decide +kernel
theorem dX1_makeEntry_5 : decode cX1_makeEntry 5 = .ok (.bipush 8, 2) := by decide +kernel
theorem dX1_makeEntry_7 : decode cX1_makeEntry 7 = .ok (.imul, 1) := by decide +kernel
theorem dX1_makeEntry_8 : decode cX1_makeEntry 8 = .ok (.iload_n 2, 1) := by decide +kernel
theorem dX1_makeEntry_9 : decode cX1_makeEntry 9 = .ok (.iadd, 1) := by decide +kernel
theorem dX1_makeEntry_10 : decode cX1_makeEntry 10 = .ok (.iload_n 3, 1) := by decide +kernel
theorem dX1_makeEntry_11 : decode cX1_makeEntry 11 = .ok (.iastore, 1) := by decide +kernel
theorem dX1_makeEntry_12 : decode cX1_makeEntry 12 = .ok (.aload_n 0, 1) := by decide +kernel
theorem dX1_makeEntry_13 : decode cX1_makeEntry 13 = .ok (.getfield 33, 3) := by decide +kernel
theorem dX1_makeEntry_16 : decode cX1_makeEntry 16 = .ok (.iload_n 1, 1) := by decide +kernel
theorem dX1_makeEntry_17 : decode cX1_makeEntry 17 = .ok (.bipush 8, 2) := by decide +kernel
theorem dX1_makeEntry_19 : decode cX1_makeEntry 19 = .ok (.imul, 1) := by decide +kernel
theorem dX1_makeEntry_20 : decode cX1_makeEntry 20 = .ok (.iload_n 2, 1) := by decide +kernel
theorem dX1_makeEntry_21 : decode cX1_makeEntry 21 = .ok (.iadd, 1) := by decide +kernel
theorem dX1_makeEntry_22 : decode cX1_makeEntry 22 = .ok (.iload 4, 2) := by decide +kernel
theorem dX1_makeEntry_24 : decode cX1_makeEntry 24 = .ok (.iastore, 1) := by decide +kernel
theorem dX1_makeEntry_25 : decode cX1_makeEntry 25 = .ok (.return_, 1) := by decide +kernel
theorem dX1_validEntry_0 : decode cX1_validEntry 0 = .ok (.iload_n 1, 1) := by decide +kernel
theorem dX1_validEntry_1 : decode cX1_validEntry 1 = .ok (.bipush 8, 2) := by decide +kernel
theorem dX1_validEntry_3 : decode cX1_validEntry 3 = .ok (.imul, 1) := by decide +kernel
theorem dX1_validEntry_4 : decode cX1_validEntry 4 = .ok (.iload_n 2, 1) := by decide +kernel
theorem dX1_validEntry_5 : decode cX1_validEntry 5 = .ok (.iadd, 1) := by decide +kernel
theorem dX1_validEntry_6 : decode cX1_validEntry 6 = .ok (.istore 4, 2) := by decide +kernel
theorem dX1_validEntry_8 : decode cX1_validEntry 8 = .ok (.iload_n 3, 1) := by decide +kernel
theorem dX1_validEntry_9 : decode cX1_validEntry 9 = .ok (.aload_n 0, 1) := by decide +kernel
theorem dX1_validEntry_10 : decode cX1_validEntry 10 = .ok (.getfield 33, 3) := by decide +kernel
theorem dX1_validEntry_13 : decode cX1_validEntry 13 = .ok (.iload 4, 2) := by decide +kernel
theorem dX1_validEntry_15 : decode cX1_validEntry 15 = .ok (.iaload, 1) := by decide +kernel
theorem dX1_validEntry_16 : decode cX1_validEntry 16 = .ok (.isub, 1) := by decide +kernel
theorem dX1_validEntry_17 : decode cX1_validEntry 17 = .ok (.bipush 50, 2) := by decide +kernel
theorem dX1_validEntry_19 : decode cX1_validEntry 19 = .ok (.if_icmp .gt 13, 3) := by decide +kernel
theorem dX1_validEntry_22 : decode cX1_validEntry 22 = .ok (.aload_n 0, 1) := by decide +kernel
theorem dX1_validEntry_23 : decode cX1_validEntry 23 = .ok (.getfield 30, 3) := by decide +kernel
theorem dX1_validEntry_26 : decode cX1_validEntry 26 = .ok (.iload 4, 2) := by decide +kernel
theorem dX1_validEntry_28 : decode cX1_validEntry 28 = .ok (.iaload, 1) := by decide +kernel
theorem dX1_validEntry_29 : decode cX1_validEntry 29 = .ok (.goto 4, 3) := by decide +kernel
theorem dX1_validEntry_32 : decode cX1_validEntry 32 = .ok (.iconst (-1), 1) := by decide +kernel
theorem dX1_validEntry_33 : decode cX1_validEntry 33 = .ok (.ireturn, 1) := by decide +kernel
theorem dX1_flush_0 : decode cX1_flush 0 = .ok (.iconst 0, 1) := by decide +kernel
theorem dX1_flush_1 : decode cX1_flush 1 = .ok (.istore_n 2, 1) := by decide +kernel
theorem dX1_flush_2 : decode cX1_flush 2 = .ok (.iload_n 2, 1) := by decide +kernel
theorem dX1_flush_3 : decode cX1_flush 3 = .ok (.bipush 8, 2) := by decide +kernel
theorem dX1_flush_5 : decode cX1_flush 5 = .ok (.if_icmp .ge 17, 3) := by decide +kernel
theorem dX1_flush_8 : decode cX1_flush 8 = .ok (.aload_n 0, 1) := by decide +kernel
theorem dX1_flush_9 : decode cX1_flush 9 = .ok (.iload_n 1, 1) := by decide +kernel
theorem dX1_flush_10 : decode cX1_flush 10 = .ok (.iload_n 2, 1) := by decide +kernel
theorem dX1_flush_11 : decode cX1_flush 11 = .ok (.iconst (-1), 1) := by decide +kernel
theorem dX1_flush_12 : decode cX1_flush 12 = .ok (.iconst 0, 1) := by decide +kernel
theorem dX1_flush_13 : decode cX1_flush 13 = .ok (.invokevirtual 53, 3) := by decide +kernel
theorem dX1_flush_16 : decode cX1_flush 16 = .ok (.iinc 2 1, 3) := by decide +kernel
theorem dX1_flush_19 : decode cX1_flush 19 = .ok (.goto (-17), 3) := by decide +kernel
theorem dX1_flush_22 : decode cX1_flush 22 = .ok (.return_, 1) := by decide +kernel
theorem dX1_countEntries_0 : decode cX1_countEntries 0 = .ok (.iconst 0, 1) := by decide +kernel
theorem dX1_countEntries_1 : decode cX1_countEntries 1 = .ok (.istore_n 2, 1) := by decide +kernel
theorem dX1_countEntries_2 : decode cX1_countEntries 2 = .ok (.iconst 0, 1) := by decide +kernel
theorem dX1_countEntries_3 : decode cX1_countEntries 3 = .ok (.istore_n 3, 1) := by decide +kernel
theorem dX1_countEntries_4 : decode cX1_countEntries 4 = .ok (.iload_n 3, 1) := by decide +kernel
theorem dX1_countEntries_5 : decode cX1_countEntries 5 = .ok (.bipush 8, 2) := by decide +kernel
theorem dX1_countEntries_7 : decode cX1_countEntries 7 = .ok (.if_icmp .ge 27, 3) := by decide +kernel
theorem dX1_countEntries_10 : decode cX1_countEntries 10 = .ok (.aload_n 0, 1) := by decide +kernel
theorem dX1_countEntries_11 : decode cX1_countEntries 11 = .ok (.getfield 30, 3) := by decide +kernel
theorem dX1_countEntries_14 : decode cX1_countEntries 14 = .ok (.iload_n 1, 1) := by decide +kernel
theorem dX1_countEntries_15 : decode cX1_countEntries 15 = .ok (.bipush 8, 2) := by decide +kernel
theorem dX1_countEntries_17 : decode cX1_countEntries 17 = .ok (.imul, 1) := by decide +kernel
theorem dX1_countEntries_18 : decode cX1_countEntries 18 = .ok (.iload_n 3, 1) := by decide +kernel
theorem dX1_countEntries_19 : decode cX1_countEntries 19 = .ok (.iadd, 1) := by decide +kernel
theorem dX1_countEntries_20 : decode cX1_countEntries 20 = .ok (.iaload, 1) := by decide +kernel
theorem dX1_countEntries_21 : decode cX1_countEntries 21 = .ok (.iconst (-1), 1) := by decide +kernel
theorem dX1_countEntries_22 : decode cX1_countEntries 22 = .ok (.if_icmp .eq 6, 3) := by decide +kernel
theorem dX1_countEntries_25 : decode cX1_countEntries 25 = .ok (.iinc 2 1, 3) := by decide +kernel
theorem dX1_countEntries_28 : decode cX1_countEntries 28 = .ok (.iinc 3 1, 3) := by decide +kernel
theorem dX1_countEntries_31 : decode cX1_countEntries 31 = .ok (.goto (-27), 3) := by decide +kernel
theorem dX1_countEntries_34 : decode cX1_countEntries 34 = .ok (.iload_n 2, 1) := by decide +kernel
theorem dX1_countEntries_35 : decode cX1_countEntries 35 = .ok (.ireturn, 1) := by decide +kernel
theorem dX1_valueOf_0 : decode cX1_valueOf 0 = .ok (.iload_n 2, 1) := by decide +kernel
theorem dX1_valueOf_1 : decode cX1_valueOf 1 = .ok (.tableswitch 69 0 4 #[35, 41, 48, 55, 62], 35) := by decide +kernel
theorem dX1_valueOf_36 : decode cX1_valueOf 36 = .ok (.aload_n 0, 1) := by decide +kernel
theorem dX1_valueOf_37 : decode cX1_valueOf 37 = .ok (.iload_n 1, 1) := by decide +kernel
theorem dX1_valueOf_38 : decode cX1_valueOf 38 = .ok (.invokevirtual 49, 3) := by decide +kernel
theorem dX1_valueOf_41 : decode cX1_valueOf 41 = .ok (.ireturn, 1) := by decide +kernel
theorem dX1_valueOf_42 : decode cX1_valueOf 42 = .ok (.aload_n 0, 1) := by decide +kernel
theorem dX1_valueOf_43 : decode cX1_valueOf 43 = .ok (.getfield 15, 3) := by decide +kernel
theorem dX1_valueOf_46 : decode cX1_valueOf 46 = .ok (.iload_n 1, 1) := by decide +kernel
theorem dX1_valueOf_47 : decode cX1_valueOf 47 = .ok (.iaload, 1) := by decide +kernel
theorem dX1_valueOf_48 : decode cX1_valueOf 48 = .ok (.ireturn, 1) := by decide +kernel
theorem dX1_valueOf_49 : decode cX1_valueOf 49 = .ok (.aload_n 0, 1) := by decide +kernel
theorem dX1_valueOf_50 : decode cX1_valueOf 50 = .ok (.getfield 18, 3) := by decide +kernel
theorem dX1_valueOf_53 : decode cX1_valueOf 53 = .ok (.iload_n 1, 1) := by decide +kernel
theorem dX1_valueOf_54 : decode cX1_valueOf 54 = .ok (.iaload, 1) := by decide +kernel
theorem dX1_valueOf_55 : decode cX1_valueOf 55 = .ok (.ireturn, 1) := by decide +kernel
theorem dX1_valueOf_56 : decode cX1_valueOf 56 = .ok (.aload_n 0, 1) := by decide +kernel
theorem dX1_valueOf_57 : decode cX1_valueOf 57 = .ok (.getfield 21, 3) := by decide +kernel
theorem dX1_valueOf_60 : decode cX1_valueOf 60 = .ok (.iload_n 1, 1) := by decide +kernel
theorem dX1_valueOf_61 : decode cX1_valueOf 61 = .ok (.iaload, 1) := by decide +kernel
theorem dX1_valueOf_62 : decode cX1_valueOf 62 = .ok (.ireturn, 1) := by decide +kernel
theorem dX1_valueOf_63 : decode cX1_valueOf 63 = .ok (.aload_n 0, 1) := by decide +kernel
theorem dX1_valueOf_64 : decode cX1_valueOf 64 = .ok (.getfield 24, 3) := by decide +kernel
theorem dX1_valueOf_67 : decode cX1_valueOf 67 = .ok (.iload_n 1, 1) := by decide +kernel
theorem dX1_valueOf_68 : decode cX1_valueOf 68 = .ok (.iaload, 1) := by decide +kernel
theorem dX1_valueOf_69 : decode cX1_valueOf 69 = .ok (.ireturn, 1) := by decide +kernel
theorem dX1_valueOf_70 : decode cX1_valueOf 70 = .ok (.aload_n 0, 1) := by decide +kernel
theorem dX1_valueOf_71 : decode cX1_valueOf 71 = .ok (.iload_n 1, 1) := by decide +kernel
theorem dX1_valueOf_72 : decode cX1_valueOf 72 = .ok (.invokevirtual 57, 3) := by decide +kernel
theorem dX1_valueOf_75 : decode cX1_valueOf 75 = .ok (.ireturn, 1) := by decide +kernel
theorem dX2_init_0 : decode cX2_init 0 = .ok (.aload_n 0, 1) := by decide +kernel
theorem dX2_init_1 : decode cX2_init 1 = .ok (.invokespecial 3, 3) := by decide +kernel
theorem dX2_init_4 : decode cX2_init 4 = .ok (.aload_n 0, 1) := by decide +kernel
theorem dX2_init_5 : decode cX2_init 5 = .ok (.bipush 8, 2) := by decide +kernel
theorem dX2_init_7 : decode cX2_init 7 = .ok (.newarray .boolean, 2) := by decide +kernel
theorem dX2_init_9 : decode cX2_init 9 = .ok (.putfield 9, 3) := by decide +kernel
theorem dX2_init_12 : decode cX2_init 12 = .ok (.aload_n 0, 1) := by decide +kernel
theorem dX2_init_13 : decode cX2_init 13 = .ok (.bipush 8, 2) := by decide +kernel
theorem dX2_init_15 : decode cX2_init 15 = .ok (.newarray .int, 2) := by decide +kernel
theorem dX2_init_17 : decode cX2_init 17 = .ok (.putfield 15, 3) := by decide +kernel
theorem dX2_init_20 : decode cX2_init 20 = .ok (.aload_n 0, 1) := by decide +kernel
theorem dX2_init_21 : decode cX2_init 21 = .ok (.bipush 8, 2) := by decide +kernel
theorem dX2_init_23 : decode cX2_init 23 = .ok (.newarray .int, 2) := by decide +kernel
theorem dX2_init_25 : decode cX2_init 25 = .ok (.putfield 19, 3) := by decide +kernel
theorem dX2_init_28 : decode cX2_init 28 = .ok (.return_, 1) := by decide +kernel
theorem dX2_carry_0 : decode cX2_carry 0 = .ok (.iconst 0, 1) := by decide +kernel
theorem dX2_carry_1 : decode cX2_carry 1 = .ok (.istore 4, 2) := by decide +kernel
theorem dX2_carry_3 : decode cX2_carry 3 = .ok (.iload 4, 2) := by decide +kernel
theorem dX2_carry_5 : decode cX2_carry 5 = .ok (.bipush 8, 2) := by decide +kernel
theorem dX2_carry_7 : decode cX2_carry 7 = .ok (.if_icmp .ge 17, 3) := by decide +kernel
theorem dX2_carry_10 : decode cX2_carry 10 = .ok (.aload_n 0, 1) := by decide +kernel
theorem dX2_carry_11 : decode cX2_carry 11 = .ok (.getfield 9, 3) := by decide +kernel
theorem dX2_carry_14 : decode cX2_carry 14 = .ok (.iload 4, 2) := by decide +kernel
theorem dX2_carry_16 : decode cX2_carry 16 = .ok (.iconst 0, 1) := by decide +kernel
theorem dX2_carry_17 : decode cX2_carry 17 = .ok (.bastore, 1) := by decide +kernel
theorem dX2_carry_18 : decode cX2_carry 18 = .ok (.iinc 4 1, 3) := by decide +kernel
theorem dX2_carry_21 : decode cX2_carry 21 = .ok (.goto (-18), 3) := by decide +kernel
theorem dX2_carry_24 : decode cX2_carry 24 = .ok (.aload_n 0, 1) := by decide +kernel
theorem dX2_carry_25 : decode cX2_carry 25 = .ok (.iconst 0, 1) := by decide +kernel
theorem dX2_carry_26 : decode cX2_carry 26 = .ok (.putfield 22, 3) := by decide +kernel
theorem dX2_carry_29 : decode cX2_carry 29 = .ok (.aload_n 0, 1) := by decide +kernel
theorem dX2_carry_30 : decode cX2_carry 30 = .ok (.iconst 0, 1) := by decide +kernel
theorem dX2_carry_31 : decode cX2_carry 31 = .ok (.putfield 26, 3) := by decide +kernel
theorem dX2_carry_34 : decode cX2_carry 34 = .ok (.aload_n 0, 1) := by decide +kernel
theorem dX2_carry_35 : decode cX2_carry 35 = .ok (.iconst 0, 1) := by decide +kernel
theorem dX2_carry_36 : decode cX2_carry 36 = .ok (.putfield 29, 3) := by decide +kernel
theorem dX2_carry_39 : decode cX2_carry 39 = .ok (.aload_n 0, 1) := by decide +kernel
theorem dX2_carry_40 : decode cX2_carry 40 = .ok (.aload_n 1, 1) := by decide +kernel
theorem dX2_carry_41 : decode cX2_carry 41 = .ok (.aload_n 1, 1) := by decide +kernel
theorem dX2_carry_42 : decode cX2_carry 42 = .ok (.getfield 33, 3) := by decide +kernel
theorem dX2_carry_45 : decode cX2_carry 45 = .ok (.getfield 39, 3) := by decide +kernel
theorem dX2_carry_48 : decode cX2_carry 48 = .ok (.iload_n 2, 1) := by decide +kernel
theorem dX2_carry_49 : decode cX2_carry 49 = .ok (.iaload, 1) := by decide +kernel
theorem dX2_carry_50 : decode cX2_carry 50 = .ok (.bipush 100, 2) := by decide +kernel
theorem dX2_carry_52 : decode cX2_carry 52 = .ok (.iload_n 2, 1) := by decide +kernel
theorem dX2_carry_53 : decode cX2_carry 53 = .ok (.invokevirtual 44, 3) := by decide +kernel
theorem dX2_carry_56 : decode cX2_carry 56 = .ok (.iconst 0, 1) := by decide +kernel
theorem dX2_carry_57 : decode cX2_carry 57 = .ok (.istore 4, 2) := by decide +kernel
theorem dX2_carry_59 : decode cX2_carry 59 = .ok (.iload 4, 2) := by decide +kernel
theorem dX2_carry_61 : decode cX2_carry 61 = .ok (.bipush 8, 2) := by decide +kernel
theorem dX2_carry_63 : decode cX2_carry 63 = .ok (.if_icmp .ge 32, 3) := by decide +kernel
theorem dX2_carry_66 : decode cX2_carry 66 = .ok (.iload 4, 2) := by decide +kernel
theorem dX2_carry_68 : decode cX2_carry 68 = .ok (.aload_n 0, 1) := by decide +kernel
theorem dX2_carry_69 : decode cX2_carry 69 = .ok (.getfield 22, 3) := by decide +kernel
theorem dX2_carry_72 : decode cX2_carry 72 = .ok (.if_icmp .ge 23, 3) := by decide +kernel
theorem dX2_carry_75 : decode cX2_carry 75 = .ok (.aload_n 0, 1) := by decide +kernel
theorem dX2_carry_76 : decode cX2_carry 76 = .ok (.aload_n 1, 1) := by decide +kernel
theorem dX2_carry_77 : decode cX2_carry 77 = .ok (.aload_n 0, 1) := by decide +kernel
theorem dX2_carry_78 : decode cX2_carry 78 = .ok (.getfield 19, 3) := by decide +kernel
theorem dX2_carry_81 : decode cX2_carry 81 = .ok (.iload 4, 2) := by decide +kernel
theorem dX2_carry_83 : decode cX2_carry 83 = .ok (.iaload, 1) := by decide +kernel
theorem dX2_carry_84 : decode cX2_carry 84 = .ok (.iload_n 2, 1) := by decide +kernel
theorem dX2_carry_85 : decode cX2_carry 85 = .ok (.iload_n 3, 1) := by decide +kernel
theorem dX2_carry_86 : decode cX2_carry 86 = .ok (.invokevirtual 48, 3) := by decide +kernel
theorem dX2_carry_89 : decode cX2_carry 89 = .ok (.iinc 4 1, 3) := by decide +kernel
theorem dX2_carry_92 : decode cX2_carry 92 = .ok (.goto (-33), 3) := by decide +kernel
theorem dX2_carry_95 : decode cX2_carry 95 = .ok (.aload_n 1, 1) := by decide +kernel
theorem dX2_carry_96 : decode cX2_carry 96 = .ok (.dup, 1) := by decide +kernel
theorem dX2_carry_97 : decode cX2_carry 97 = .ok (.getfield 51, 3) := by decide +kernel
theorem dX2_carry_100 : decode cX2_carry 100 = .ok (.iconst 1, 1) := by decide +kernel
theorem dX2_carry_101 : decode cX2_carry 101 = .ok (.iadd, 1) := by decide +kernel
theorem dX2_carry_102 : decode cX2_carry 102 = .ok (.putfield 51, 3) := by decide +kernel
theorem dX2_carry_105 : decode cX2_carry 105 = .ok (.aload_n 1, 1) := by decide +kernel
theorem dX2_carry_106 : decode cX2_carry 106 = .ok (.dup, 1) := by decide +kernel
theorem dX2_carry_107 : decode cX2_carry 107 = .ok (.getfield 54, 3) := by decide +kernel
theorem dX2_carry_110 : decode cX2_carry 110 = .ok (.aload_n 0, 1) := by decide +kernel
theorem dX2_carry_111 : decode cX2_carry 111 = .ok (.getfield 26, 3) := by decide +kernel
theorem dX2_carry_114 : decode cX2_carry 114 = .ok (.iadd, 1) := by decide +kernel
theorem dX2_carry_115 : decode cX2_carry 115 = .ok (.putfield 54, 3) := by decide +kernel
theorem dX2_carry_118 : decode cX2_carry 118 = .ok (.aload_n 0, 1) := by decide +kernel
theorem dX2_carry_119 : decode cX2_carry 119 = .ok (.getfield 29, 3) := by decide +kernel
theorem dX2_carry_122 : decode cX2_carry 122 = .ok (.ifCond .ne 8, 3) := by decide +kernel
theorem dX2_carry_125 : decode cX2_carry 125 = .ok (.aload_n 0, 1) := by decide +kernel
theorem dX2_carry_126 : decode cX2_carry 126 = .ok (.getfield 26, 3) := by decide +kernel
theorem dX2_carry_129 : decode cX2_carry 129 = .ok (.ireturn, 1) := by decide +kernel
theorem dX2_carry_130 : decode cX2_carry 130 = .ok (.aload_n 1, 1) := by decide +kernel
theorem dX2_carry_131 : decode cX2_carry 131 = .ok (.dup, 1) := by decide +kernel
theorem dX2_carry_132 : decode cX2_carry 132 = .ok (.getfield 55, 3) := by decide +kernel
theorem dX2_carry_135 : decode cX2_carry 135 = .ok (.iconst 1, 1) := by decide +kernel
theorem dX2_carry_136 : decode cX2_carry 136 = .ok (.iadd, 1) := by decide +kernel
theorem dX2_carry_137 : decode cX2_carry 137 = .ok (.putfield 55, 3) := by decide +kernel
theorem dX2_carry_140 : decode cX2_carry 140 = .ok (.aload_n 0, 1) := by decide +kernel
theorem dX2_carry_141 : decode cX2_carry 141 = .ok (.getfield 26, 3) := by decide +kernel
theorem dX2_carry_144 : decode cX2_carry 144 = .ok (.sipush 1000, 3) := by decide +kernel
theorem dX2_carry_147 : decode cX2_carry 147 = .ok (.iadd, 1) := by decide +kernel
theorem dX2_carry_148 : decode cX2_carry 148 = .ok (.ireturn, 1) := by decide +kernel
theorem dX2_receive_0 : decode cX2_receive 0 = .ok (.aload_n 0, 1) := by decide +kernel
theorem dX2_receive_1 : decode cX2_receive 1 = .ok (.getfield 9, 3) := by decide +kernel
theorem dX2_receive_4 : decode cX2_receive 4 = .ok (.iload_n 2, 1) := by decide +kernel
theorem dX2_receive_5 : decode cX2_receive 5 = .ok (.baload, 1) := by decide +kernel
theorem dX2_receive_6 : decode cX2_receive 6 = .ok (.ifCond .ne 12, 3) := by decide +kernel
theorem dX2_receive_9 : decode cX2_receive 9 = .ok (.aload_n 0, 1) := by decide +kernel
theorem dX2_receive_10 : decode cX2_receive 10 = .ok (.getfield 22, 3) := by decide +kernel
theorem dX2_receive_13 : decode cX2_receive 13 = .ok (.bipush 8, 2) := by decide +kernel
theorem dX2_receive_15 : decode cX2_receive 15 = .ok (.if_icmp .lt 4, 3) := by decide +kernel
theorem dX2_receive_18 : decode cX2_receive 18 = .ok (.return_, 1) := by decide +kernel
theorem dX2_receive_19 : decode cX2_receive 19 = .ok (.aload_n 0, 1) := by decide +kernel
theorem dX2_receive_20 : decode cX2_receive 20 = .ok (.getfield 9, 3) := by decide +kernel
theorem dX2_receive_23 : decode cX2_receive 23 = .ok (.iload_n 2, 1) := by decide +kernel
theorem dX2_receive_24 : decode cX2_receive 24 = .ok (.iconst 1, 1) := by decide +kernel
theorem dX2_receive_25 : decode cX2_receive 25 = .ok (.bastore, 1) := by decide +kernel
theorem dX2_receive_26 : decode cX2_receive 26 = .ok (.aload_n 0, 1) := by decide +kernel
theorem dX2_receive_27 : decode cX2_receive 27 = .ok (.getfield 15, 3) := by decide +kernel
theorem dX2_receive_30 : decode cX2_receive 30 = .ok (.iload_n 2, 1) := by decide +kernel
theorem dX2_receive_31 : decode cX2_receive 31 = .ok (.iload_n 3, 1) := by decide +kernel
theorem dX2_receive_32 : decode cX2_receive 32 = .ok (.iastore, 1) := by decide +kernel
theorem dX2_receive_33 : decode cX2_receive 33 = .ok (.aload_n 0, 1) := by decide +kernel
theorem dX2_receive_34 : decode cX2_receive 34 = .ok (.getfield 19, 3) := by decide +kernel
theorem dX2_receive_37 : decode cX2_receive 37 = .ok (.aload_n 0, 1) := by decide +kernel
theorem dX2_receive_38 : decode cX2_receive 38 = .ok (.getfield 22, 3) := by decide +kernel
theorem dX2_receive_41 : decode cX2_receive 41 = .ok (.iload_n 2, 1) := by decide +kernel
theorem dX2_receive_42 : decode cX2_receive 42 = .ok (.iastore, 1) := by decide +kernel
theorem dX2_receive_43 : decode cX2_receive 43 = .ok (.aload_n 0, 1) := by decide +kernel
theorem dX2_receive_44 : decode cX2_receive 44 = .ok (.dup, 1) := by decide +kernel
theorem dX2_receive_45 : decode cX2_receive 45 = .ok (.getfield 22, 3) := by decide +kernel
theorem dX2_receive_48 : decode cX2_receive 48 = .ok (.iconst 1, 1) := by decide +kernel
theorem dX2_receive_49 : decode cX2_receive 49 = .ok (.iadd, 1) := by decide +kernel
theorem dX2_receive_50 : decode cX2_receive 50 = .ok (.putfield 22, 3) := by decide +kernel
theorem dX2_receive_53 : decode cX2_receive 53 = .ok (.aload_n 1, 1) := by decide +kernel
theorem dX2_receive_54 : decode cX2_receive 54 = .ok (.getfield 33, 3) := by decide +kernel
theorem dX2_receive_57 : decode cX2_receive 57 = .ok (.iload_n 2, 1) := by decide +kernel
theorem dX2_receive_58 : decode cX2_receive 58 = .ok (.iload 4, 2) := by decide +kernel
theorem dX2_receive_60 : decode cX2_receive 60 = .ok (.iload_n 3, 1) := by decide +kernel
theorem dX2_receive_61 : decode cX2_receive 61 = .ok (.aload_n 1, 1) := by decide +kernel
theorem dX2_receive_62 : decode cX2_receive 62 = .ok (.getfield 57, 3) := by decide +kernel
theorem dX2_receive_65 : decode cX2_receive 65 = .ok (.invokevirtual 60, 3) := by decide +kernel
theorem dX2_receive_68 : decode cX2_receive 68 = .ok (.return_, 1) := by decide +kernel
theorem dX2_serve_0 : decode cX2_serve 0 = .ok (.aload_n 1, 1) := by decide +kernel
theorem dX2_serve_1 : decode cX2_serve 1 = .ok (.getfield 33, 3) := by decide +kernel
theorem dX2_serve_4 : decode cX2_serve 4 = .ok (.getfield 39, 3) := by decide +kernel
theorem dX2_serve_7 : decode cX2_serve 7 = .ok (.iload 4, 2) := by decide +kernel
theorem dX2_serve_9 : decode cX2_serve 9 = .ok (.iaload, 1) := by decide +kernel
theorem dX2_serve_10 : decode cX2_serve 10 = .ok (.iload_n 2, 1) := by decide +kernel
theorem dX2_serve_11 : decode cX2_serve 11 = .ok (.if_icmp .ne 9, 3) := by decide +kernel
theorem dX2_serve_14 : decode cX2_serve 14 = .ok (.aload_n 0, 1) := by decide +kernel
theorem dX2_serve_15 : decode cX2_serve 15 = .ok (.iconst 1, 1) := by decide +kernel
theorem dX2_serve_16 : decode cX2_serve 16 = .ok (.putfield 29, 3) := by decide +kernel
theorem dX2_serve_19 : decode cX2_serve 19 = .ok (.return_, 1) := by decide +kernel
theorem dX2_serve_20 : decode cX2_serve 20 = .ok (.aload_n 1, 1) := by decide +kernel
theorem dX2_serve_21 : decode cX2_serve 21 = .ok (.getfield 33, 3) := by decide +kernel
theorem dX2_serve_24 : decode cX2_serve 24 = .ok (.iload_n 2, 1) := by decide +kernel
theorem dX2_serve_25 : decode cX2_serve 25 = .ok (.iload 4, 2) := by decide +kernel
theorem dX2_serve_27 : decode cX2_serve 27 = .ok (.aload_n 1, 1) := by decide +kernel
theorem dX2_serve_28 : decode cX2_serve 28 = .ok (.getfield 57, 3) := by decide +kernel
theorem dX2_serve_31 : decode cX2_serve 31 = .ok (.invokevirtual 64, 3) := by decide +kernel
theorem dX2_serve_34 : decode cX2_serve 34 = .ok (.istore 5, 2) := by decide +kernel
theorem dX2_serve_36 : decode cX2_serve 36 = .ok (.aload_n 1, 1) := by decide +kernel
theorem dX2_serve_37 : decode cX2_serve 37 = .ok (.getfield 68, 3) := by decide +kernel
theorem dX2_serve_40 : decode cX2_serve 40 = .ok (.iload 5, 2) := by decide +kernel
theorem dX2_serve_42 : decode cX2_serve 42 = .ok (.invokevirtual 72, 3) := by decide +kernel
theorem dX2_serve_45 : decode cX2_serve 45 = .ok (.ifCond .eq 24, 3) := by decide +kernel
theorem dX2_serve_48 : decode cX2_serve 48 = .ok (.iload 5, 2) := by decide +kernel
theorem dX2_serve_50 : decode cX2_serve 50 = .ok (.aload_n 0, 1) := by decide +kernel
theorem dX2_serve_51 : decode cX2_serve 51 = .ok (.getfield 15, 3) := by decide +kernel
theorem dX2_serve_54 : decode cX2_serve 54 = .ok (.iload_n 2, 1) := by decide +kernel
theorem dX2_serve_55 : decode cX2_serve 55 = .ok (.iaload, 1) := by decide +kernel
theorem dX2_serve_56 : decode cX2_serve 56 = .ok (.if_icmp .eq 13, 3) := by decide +kernel
theorem dX2_serve_59 : decode cX2_serve 59 = .ok (.aload_n 0, 1) := by decide +kernel
theorem dX2_serve_60 : decode cX2_serve 60 = .ok (.aload_n 1, 1) := by decide +kernel
theorem dX2_serve_61 : decode cX2_serve 61 = .ok (.iload_n 2, 1) := by decide +kernel
theorem dX2_serve_62 : decode cX2_serve 62 = .ok (.iload 5, 2) := by decide +kernel
theorem dX2_serve_64 : decode cX2_serve 64 = .ok (.iload_n 3, 1) := by decide +kernel
theorem dX2_serve_65 : decode cX2_serve 65 = .ok (.invokevirtual 78, 3) := by decide +kernel
theorem dX2_serve_68 : decode cX2_serve 68 = .ok (.return_, 1) := by decide +kernel
theorem dX2_serve_69 : decode cX2_serve 69 = .ok (.iconst 0, 1) := by decide +kernel
theorem dX2_serve_70 : decode cX2_serve 70 = .ok (.istore 6, 2) := by decide +kernel
theorem dX2_serve_72 : decode cX2_serve 72 = .ok (.iload 6, 2) := by decide +kernel
theorem dX2_serve_74 : decode cX2_serve 74 = .ok (.aload_n 1, 1) := by decide +kernel
theorem dX2_serve_75 : decode cX2_serve 75 = .ok (.getfield 68, 3) := by decide +kernel
theorem dX2_serve_78 : decode cX2_serve 78 = .ok (.getfield 81, 3) := by decide +kernel
theorem dX2_serve_81 : decode cX2_serve 81 = .ok (.if_icmp .ge 54, 3) := by decide +kernel
theorem dX2_serve_84 : decode cX2_serve 84 = .ok (.aload_n 1, 1) := by decide +kernel
theorem dX2_serve_85 : decode cX2_serve 85 = .ok (.getfield 68, 3) := by decide +kernel
theorem dX2_serve_88 : decode cX2_serve 88 = .ok (.iload 6, 2) := by decide +kernel
theorem dX2_serve_90 : decode cX2_serve 90 = .ok (.invokevirtual 72, 3) := by decide +kernel
theorem dX2_serve_93 : decode cX2_serve 93 = .ok (.ifCond .eq 36, 3) := by decide +kernel
theorem dX2_serve_96 : decode cX2_serve 96 = .ok (.aload_n 1, 1) := by decide +kernel
theorem dX2_serve_97 : decode cX2_serve 97 = .ok (.getfield 68, 3) := by decide +kernel
theorem dX2_serve_100 : decode cX2_serve 100 = .ok (.iload 6, 2) := by decide +kernel
theorem dX2_serve_102 : decode cX2_serve 102 = .ok (.iload_n 2, 1) := by decide +kernel
theorem dX2_serve_103 : decode cX2_serve 103 = .ok (.invokevirtual 84, 3) := by decide +kernel
theorem dX2_serve_106 : decode cX2_serve 106 = .ok (.ifCond .eq 23, 3) := by decide +kernel
theorem dX2_serve_109 : decode cX2_serve 109 = .ok (.iload 6, 2) := by decide +kernel
theorem dX2_serve_111 : decode cX2_serve 111 = .ok (.aload_n 0, 1) := by decide +kernel
theorem dX2_serve_112 : decode cX2_serve 112 = .ok (.getfield 15, 3) := by decide +kernel
theorem dX2_serve_115 : decode cX2_serve 115 = .ok (.iload_n 2, 1) := by decide +kernel
theorem dX2_serve_116 : decode cX2_serve 116 = .ok (.iaload, 1) := by decide +kernel
theorem dX2_serve_117 : decode cX2_serve 117 = .ok (.if_icmp .eq 12, 3) := by decide +kernel
theorem dX2_serve_120 : decode cX2_serve 120 = .ok (.aload_n 0, 1) := by decide +kernel
theorem dX2_serve_121 : decode cX2_serve 121 = .ok (.aload_n 1, 1) := by decide +kernel
theorem dX2_serve_122 : decode cX2_serve 122 = .ok (.iload_n 2, 1) := by decide +kernel
theorem dX2_serve_123 : decode cX2_serve 123 = .ok (.iload 6, 2) := by decide +kernel
theorem dX2_serve_125 : decode cX2_serve 125 = .ok (.iload_n 3, 1) := by decide +kernel
theorem dX2_serve_126 : decode cX2_serve 126 = .ok (.invokevirtual 78, 3) := by decide +kernel
theorem dX2_serve_129 : decode cX2_serve 129 = .ok (.iinc 6 1, 3) := by decide +kernel
theorem dX2_serve_132 : decode cX2_serve 132 = .ok (.goto (-60), 3) := by decide +kernel
theorem dX2_serve_135 : decode cX2_serve 135 = .ok (.return_, 1) := by decide +kernel
theorem dX2_sendOn_0 : decode cX2_sendOn 0 = .ok (.aload_n 0, 1) := by decide +kernel
theorem dX2_sendOn_1 : decode cX2_sendOn 1 = .ok (.dup, 1) := by decide +kernel
theorem dX2_sendOn_2 : decode cX2_sendOn 2 = .ok (.getfield 26, 3) := by decide +kernel
theorem dX2_sendOn_5 : decode cX2_sendOn 5 = .ok (.iconst 1, 1) := by decide +kernel
theorem dX2_sendOn_6 : decode cX2_sendOn 6 = .ok (.iadd, 1) := by decide +kernel
theorem dX2_sendOn_7 : decode cX2_sendOn 7 = .ok (.putfield 26, 3) := by decide +kernel
theorem dX2_sendOn_10 : decode cX2_sendOn 10 = .ok (.aload_n 0, 1) := by decide +kernel
theorem dX2_sendOn_11 : decode cX2_sendOn 11 = .ok (.aload_n 1, 1) := by decide +kernel
theorem dX2_sendOn_12 : decode cX2_sendOn 12 = .ok (.aload_n 1, 1) := by decide +kernel
theorem dX2_sendOn_13 : decode cX2_sendOn 13 = .ok (.getfield 68, 3) := by decide +kernel
theorem dX2_sendOn_16 : decode cX2_sendOn 16 = .ok (.iload_n 3, 1) := by decide +kernel
theorem dX2_sendOn_17 : decode cX2_sendOn 17 = .ok (.iload_n 2, 1) := by decide +kernel
theorem dX2_sendOn_18 : decode cX2_sendOn 18 = .ok (.invokevirtual 88, 3) := by decide +kernel
theorem dX2_sendOn_21 : decode cX2_sendOn 21 = .ok (.iload_n 3, 1) := by decide +kernel
theorem dX2_sendOn_22 : decode cX2_sendOn 22 = .ok (.iload 4, 2) := by decide +kernel
theorem dX2_sendOn_24 : decode cX2_sendOn 24 = .ok (.invokevirtual 44, 3) := by decide +kernel
theorem dX2_sendOn_27 : decode cX2_sendOn 27 = .ok (.return_, 1) := by decide +kernel
theorem dX3_init_0 : decode cX3_init 0 = .ok (.aload_n 0, 1) := by decide +kernel
theorem dX3_init_1 : decode cX3_init 1 = .ok (.invokespecial 3, 3) := by decide +kernel
theorem dX3_init_4 : decode cX3_init 4 = .ok (.aload_n 0, 1) := by decide +kernel
theorem dX3_init_5 : decode cX3_init 5 = .ok (.bipush 16, 2) := by decide +kernel
theorem dX3_init_7 : decode cX3_init 7 = .ok (.newarray .int, 2) := by decide +kernel
theorem dX3_init_9 : decode cX3_init 9 = .ok (.putfield 9, 3) := by decide +kernel
theorem dX3_init_12 : decode cX3_init 12 = .ok (.aload_n 0, 1) := by decide +kernel
theorem dX3_init_13 : decode cX3_init 13 = .ok (.bipush 16, 2) := by decide +kernel
theorem dX3_init_15 : decode cX3_init 15 = .ok (.newarray .int, 2) := by decide +kernel
theorem dX3_init_17 : decode cX3_init 17 = .ok (.putfield 15, 3) := by decide +kernel
theorem dX3_init_20 : decode cX3_init 20 = .ok (.aload_n 0, 1) := by decide +kernel
theorem dX3_init_21 : decode cX3_init 21 = .ok (.bipush 16, 2) := by decide +kernel
theorem dX3_init_23 : decode cX3_init 23 = .ok (.newarray .int, 2) := by decide +kernel
theorem dX3_init_25 : decode cX3_init 25 = .ok (.putfield 18, 3) := by decide +kernel
theorem dX3_init_28 : decode cX3_init 28 = .ok (.aload_n 0, 1) := by decide +kernel
theorem dX3_init_29 : decode cX3_init 29 = .ok (.bipush 16, 2) := by decide +kernel
theorem dX3_init_31 : decode cX3_init 31 = .ok (.newarray .int, 2) := by decide +kernel
theorem dX3_init_33 : decode cX3_init 33 = .ok (.putfield 21, 3) := by decide +kernel
theorem dX3_init_36 : decode cX3_init 36 = .ok (.aload_n 0, 1) := by decide +kernel
theorem dX3_init_37 : decode cX3_init 37 = .ok (.bipush 16, 2) := by decide +kernel
theorem dX3_init_39 : decode cX3_init 39 = .ok (.newarray .boolean, 2) := by decide +kernel
theorem dX3_init_41 : decode cX3_init 41 = .ok (.putfield 24, 3) := by decide +kernel
theorem dX3_init_44 : decode cX3_init 44 = .ok (.aload_n 0, 1) := by decide +kernel
theorem dX3_init_45 : decode cX3_init 45 = .ok (.bipush 16, 2) := by decide +kernel
theorem dX3_init_47 : decode cX3_init 47 = .ok (.newarray .int, 2) := by decide +kernel
theorem dX3_init_49 : decode cX3_init 49 = .ok (.putfield 28, 3) := by decide +kernel
theorem dX3_init_52 : decode cX3_init 52 = .ok (.aload_n 0, 1) := by decide +kernel
theorem dX3_init_53 : decode cX3_init 53 = .ok (.bipush 16, 2) := by decide +kernel
theorem dX3_init_55 : decode cX3_init 55 = .ok (.newarray .int, 2) := by decide +kernel
theorem dX3_init_57 : decode cX3_init 57 = .ok (.putfield 31, 3) := by decide +kernel
theorem dX3_init_60 : decode cX3_init 60 = .ok (.aload_n 0, 1) := by decide +kernel
theorem dX3_init_61 : decode cX3_init 61 = .ok (.bipush 16, 2) := by decide +kernel
theorem dX3_init_63 : decode cX3_init 63 = .ok (.newarray .int, 2) := by decide +kernel
theorem dX3_init_65 : decode cX3_init 65 = .ok (.putfield 34, 3) := by decide +kernel
theorem dX3_init_68 : decode cX3_init 68 = .ok (.aload_n 0, 1) := by decide +kernel
theorem dX3_init_69 : decode cX3_init 69 = .ok (.bipush 32, 2) := by decide +kernel
theorem dX3_init_71 : decode cX3_init 71 = .ok (.newarray .int, 2) := by decide +kernel
theorem dX3_init_73 : decode cX3_init 73 = .ok (.putfield 37, 3) := by decide +kernel
theorem dX3_init_76 : decode cX3_init 76 = .ok (.aload_n 0, 1) := by decide +kernel
theorem dX3_init_77 : decode cX3_init 77 = .ok (.bipush 32, 2) := by decide +kernel
theorem dX3_init_79 : decode cX3_init 79 = .ok (.newarray .int, 2) := by decide +kernel
theorem dX3_init_81 : decode cX3_init 81 = .ok (.putfield 40, 3) := by decide +kernel
theorem dX3_init_84 : decode cX3_init 84 = .ok (.aload_n 0, 1) := by decide +kernel
theorem dX3_init_85 : decode cX3_init 85 = .ok (.bipush 32, 2) := by decide +kernel
theorem dX3_init_87 : decode cX3_init 87 = .ok (.newarray .int, 2) := by decide +kernel
theorem dX3_init_89 : decode cX3_init 89 = .ok (.putfield 43, 3) := by decide +kernel
theorem dX3_init_92 : decode cX3_init 92 = .ok (.return_, 1) := by decide +kernel
theorem dX3_copyFrom_0 : decode cX3_copyFrom 0 = .ok (.aload_n 0, 1) := by decide +kernel
theorem dX3_copyFrom_1 : decode cX3_copyFrom 1 = .ok (.aload_n 1, 1) := by decide +kernel
theorem dX3_copyFrom_2 : decode cX3_copyFrom 2 = .ok (.getfield 46, 3) := by decide +kernel
theorem dX3_copyFrom_5 : decode cX3_copyFrom 5 = .ok (.putfield 46, 3) := by decide +kernel
theorem dX3_copyFrom_8 : decode cX3_copyFrom 8 = .ok (.aload_n 1, 1) := by decide +kernel
theorem dX3_copyFrom_9 : decode cX3_copyFrom 9 = .ok (.getfield 9, 3) := by decide +kernel
theorem dX3_copyFrom_12 : decode cX3_copyFrom 12 = .ok (.iconst 0, 1) := by decide +kernel
theorem dX3_copyFrom_13 : decode cX3_copyFrom 13 = .ok (.aload_n 0, 1) := by decide +kernel
theorem dX3_copyFrom_14 : decode cX3_copyFrom 14 = .ok (.getfield 9, 3) := by decide +kernel
theorem dX3_copyFrom_17 : decode cX3_copyFrom 17 = .ok (.iconst 0, 1) := by decide +kernel
theorem dX3_copyFrom_18 : decode cX3_copyFrom 18 = .ok (.bipush 16, 2) := by decide +kernel
theorem dX3_copyFrom_20 : decode cX3_copyFrom 20 = .ok (.invokestatic 50, 3) := by decide +kernel
theorem dX3_copyFrom_23 : decode cX3_copyFrom 23 = .ok (.aload_n 1, 1) := by decide +kernel
theorem dX3_copyFrom_24 : decode cX3_copyFrom 24 = .ok (.getfield 15, 3) := by decide +kernel
theorem dX3_copyFrom_27 : decode cX3_copyFrom 27 = .ok (.iconst 0, 1) := by decide +kernel
theorem dX3_copyFrom_28 : decode cX3_copyFrom 28 = .ok (.aload_n 0, 1) := by decide +kernel
theorem dX3_copyFrom_29 : decode cX3_copyFrom 29 = .ok (.getfield 15, 3) := by decide +kernel
theorem dX3_copyFrom_32 : decode cX3_copyFrom 32 = .ok (.iconst 0, 1) := by decide +kernel
theorem dX3_copyFrom_33 : decode cX3_copyFrom 33 = .ok (.bipush 16, 2) := by decide +kernel
theorem dX3_copyFrom_35 : decode cX3_copyFrom 35 = .ok (.invokestatic 50, 3) := by decide +kernel
theorem dX3_copyFrom_38 : decode cX3_copyFrom 38 = .ok (.aload_n 1, 1) := by decide +kernel
theorem dX3_copyFrom_39 : decode cX3_copyFrom 39 = .ok (.getfield 18, 3) := by decide +kernel
theorem dX3_copyFrom_42 : decode cX3_copyFrom 42 = .ok (.iconst 0, 1) := by decide +kernel
theorem dX3_copyFrom_43 : decode cX3_copyFrom 43 = .ok (.aload_n 0, 1) := by decide +kernel
theorem dX3_copyFrom_44 : decode cX3_copyFrom 44 = .ok (.getfield 18, 3) := by decide +kernel
theorem dX3_copyFrom_47 : decode cX3_copyFrom 47 = .ok (.iconst 0, 1) := by decide +kernel
theorem dX3_copyFrom_48 : decode cX3_copyFrom 48 = .ok (.bipush 16, 2) := by decide +kernel
theorem dX3_copyFrom_50 : decode cX3_copyFrom 50 = .ok (.invokestatic 50, 3) := by decide +kernel
theorem dX3_copyFrom_53 : decode cX3_copyFrom 53 = .ok (.aload_n 1, 1) := by decide +kernel
theorem dX3_copyFrom_54 : decode cX3_copyFrom 54 = .ok (.getfield 21, 3) := by decide +kernel
theorem dX3_copyFrom_57 : decode cX3_copyFrom 57 = .ok (.iconst 0, 1) := by decide +kernel
theorem dX3_copyFrom_58 : decode cX3_copyFrom 58 = .ok (.aload_n 0, 1) := by decide +kernel
theorem dX3_copyFrom_59 : decode cX3_copyFrom 59 = .ok (.getfield 21, 3) := by decide +kernel
theorem dX3_copyFrom_62 : decode cX3_copyFrom 62 = .ok (.iconst 0, 1) := by decide +kernel
theorem dX3_copyFrom_63 : decode cX3_copyFrom 63 = .ok (.bipush 16, 2) := by decide +kernel
theorem dX3_copyFrom_65 : decode cX3_copyFrom 65 = .ok (.invokestatic 50, 3) := by decide +kernel
theorem dX3_copyFrom_68 : decode cX3_copyFrom 68 = .ok (.aload_n 1, 1) := by decide +kernel
theorem dX3_copyFrom_69 : decode cX3_copyFrom 69 = .ok (.getfield 24, 3) := by decide +kernel
theorem dX3_copyFrom_72 : decode cX3_copyFrom 72 = .ok (.iconst 0, 1) := by decide +kernel
theorem dX3_copyFrom_73 : decode cX3_copyFrom 73 = .ok (.aload_n 0, 1) := by decide +kernel
theorem dX3_copyFrom_74 : decode cX3_copyFrom 74 = .ok (.getfield 24, 3) := by decide +kernel
theorem dX3_copyFrom_77 : decode cX3_copyFrom 77 = .ok (.iconst 0, 1) := by decide +kernel
theorem dX3_copyFrom_78 : decode cX3_copyFrom 78 = .ok (.bipush 16, 2) := by decide +kernel
theorem dX3_copyFrom_80 : decode cX3_copyFrom 80 = .ok (.invokestatic 50, 3) := by decide +kernel
theorem dX3_copyFrom_83 : decode cX3_copyFrom 83 = .ok (.aload_n 1, 1) := by decide +kernel
theorem dX3_copyFrom_84 : decode cX3_copyFrom 84 = .ok (.getfield 28, 3) := by decide +kernel
theorem dX3_copyFrom_87 : decode cX3_copyFrom 87 = .ok (.iconst 0, 1) := by decide +kernel
theorem dX3_copyFrom_88 : decode cX3_copyFrom 88 = .ok (.aload_n 0, 1) := by decide +kernel
theorem dX3_copyFrom_89 : decode cX3_copyFrom 89 = .ok (.getfield 28, 3) := by decide +kernel
theorem dX3_copyFrom_92 : decode cX3_copyFrom 92 = .ok (.iconst 0, 1) := by decide +kernel
theorem dX3_copyFrom_93 : decode cX3_copyFrom 93 = .ok (.bipush 16, 2) := by decide +kernel
theorem dX3_copyFrom_95 : decode cX3_copyFrom 95 = .ok (.invokestatic 50, 3) := by decide +kernel
theorem dX3_copyFrom_98 : decode cX3_copyFrom 98 = .ok (.aload_n 1, 1) := by decide +kernel
theorem dX3_copyFrom_99 : decode cX3_copyFrom 99 = .ok (.getfield 31, 3) := by decide +kernel
theorem dX3_copyFrom_102 : decode cX3_copyFrom 102 = .ok (.iconst 0, 1) := by decide +kernel
theorem dX3_copyFrom_103 : decode cX3_copyFrom 103 = .ok (.aload_n 0, 1) := by decide +kernel
theorem dX3_copyFrom_104 : decode cX3_copyFrom 104 = .ok (.getfield 31, 3) := by decide +kernel
theorem dX3_copyFrom_107 : decode cX3_copyFrom 107 = .ok (.iconst 0, 1) := by decide +kernel
theorem dX3_copyFrom_108 : decode cX3_copyFrom 108 = .ok (.bipush 16, 2) := by decide +kernel
theorem dX3_copyFrom_110 : decode cX3_copyFrom 110 = .ok (.invokestatic 50, 3) := by decide +kernel
theorem dX3_copyFrom_113 : decode cX3_copyFrom 113 = .ok (.aload_n 1, 1) := by decide +kernel
theorem dX3_copyFrom_114 : decode cX3_copyFrom 114 = .ok (.getfield 34, 3) := by decide +kernel
theorem dX3_copyFrom_117 : decode cX3_copyFrom 117 = .ok (.iconst 0, 1) := by decide +kernel
theorem dX3_copyFrom_118 : decode cX3_copyFrom 118 = .ok (.aload_n 0, 1) := by decide +kernel
theorem dX3_copyFrom_119 : decode cX3_copyFrom 119 = .ok (.getfield 34, 3) := by decide +kernel
theorem dX3_copyFrom_122 : decode cX3_copyFrom 122 = .ok (.iconst 0, 1) := by decide +kernel
theorem dX3_copyFrom_123 : decode cX3_copyFrom 123 = .ok (.bipush 16, 2) := by decide +kernel
theorem dX3_copyFrom_125 : decode cX3_copyFrom 125 = .ok (.invokestatic 50, 3) := by decide +kernel
theorem dX3_copyFrom_128 : decode cX3_copyFrom 128 = .ok (.aload_n 1, 1) := by decide +kernel
theorem dX3_copyFrom_129 : decode cX3_copyFrom 129 = .ok (.getfield 37, 3) := by decide +kernel
theorem dX3_copyFrom_132 : decode cX3_copyFrom 132 = .ok (.iconst 0, 1) := by decide +kernel
theorem dX3_copyFrom_133 : decode cX3_copyFrom 133 = .ok (.aload_n 0, 1) := by decide +kernel
theorem dX3_copyFrom_134 : decode cX3_copyFrom 134 = .ok (.getfield 37, 3) := by decide +kernel
theorem dX3_copyFrom_137 : decode cX3_copyFrom 137 = .ok (.iconst 0, 1) := by decide +kernel
theorem dX3_copyFrom_138 : decode cX3_copyFrom 138 = .ok (.bipush 32, 2) := by decide +kernel
theorem dX3_copyFrom_140 : decode cX3_copyFrom 140 = .ok (.invokestatic 50, 3) := by decide +kernel
theorem dX3_copyFrom_143 : decode cX3_copyFrom 143 = .ok (.aload_n 1, 1) := by decide +kernel
theorem dX3_copyFrom_144 : decode cX3_copyFrom 144 = .ok (.getfield 40, 3) := by decide +kernel
theorem dX3_copyFrom_147 : decode cX3_copyFrom 147 = .ok (.iconst 0, 1) := by decide +kernel
theorem dX3_copyFrom_148 : decode cX3_copyFrom 148 = .ok (.aload_n 0, 1) := by decide +kernel
theorem dX3_copyFrom_149 : decode cX3_copyFrom 149 = .ok (.getfield 40, 3) := by decide +kernel
theorem dX3_copyFrom_152 : decode cX3_copyFrom 152 = .ok (.iconst 0, 1) := by decide +kernel
theorem dX3_copyFrom_153 : decode cX3_copyFrom 153 = .ok (.bipush 32, 2) := by decide +kernel
theorem dX3_copyFrom_155 : decode cX3_copyFrom 155 = .ok (.invokestatic 50, 3) := by decide +kernel
theorem dX3_copyFrom_158 : decode cX3_copyFrom 158 = .ok (.aload_n 1, 1) := by decide +kernel
theorem dX3_copyFrom_159 : decode cX3_copyFrom 159 = .ok (.getfield 43, 3) := by decide +kernel
theorem dX3_copyFrom_162 : decode cX3_copyFrom 162 = .ok (.iconst 0, 1) := by decide +kernel
theorem dX3_copyFrom_163 : decode cX3_copyFrom 163 = .ok (.aload_n 0, 1) := by decide +kernel
theorem dX3_copyFrom_164 : decode cX3_copyFrom 164 = .ok (.getfield 43, 3) := by decide +kernel
theorem dX3_copyFrom_167 : decode cX3_copyFrom 167 = .ok (.iconst 0, 1) := by decide +kernel
theorem dX3_copyFrom_168 : decode cX3_copyFrom 168 = .ok (.bipush 32, 2) := by decide +kernel
theorem dX3_copyFrom_170 : decode cX3_copyFrom 170 = .ok (.invokestatic 50, 3) := by decide +kernel
theorem dX3_copyFrom_173 : decode cX3_copyFrom 173 = .ok (.return_, 1) := by decide +kernel
theorem dX3_has_0 : decode cX3_has 0 = .ok (.iload_n 1, 1) := by decide +kernel
theorem dX3_has_1 : decode cX3_has 1 = .ok (.ifCond .lt 15, 3) := by decide +kernel
theorem dX3_has_4 : decode cX3_has 4 = .ok (.iload_n 1, 1) := by decide +kernel
theorem dX3_has_5 : decode cX3_has 5 = .ok (.aload_n 0, 1) := by decide +kernel
theorem dX3_has_6 : decode cX3_has 6 = .ok (.getfield 46, 3) := by decide +kernel
theorem dX3_has_9 : decode cX3_has 9 = .ok (.if_icmp .ge 7, 3) := by decide +kernel
theorem dX3_has_12 : decode cX3_has 12 = .ok (.iconst 1, 1) := by decide +kernel
theorem dX3_has_13 : decode cX3_has 13 = .ok (.goto 4, 3) := by decide +kernel
theorem dX3_has_16 : decode cX3_has 16 = .ok (.iconst 0, 1) := by decide +kernel
theorem dX3_has_17 : decode cX3_has 17 = .ok (.ireturn, 1) := by decide +kernel
theorem dX3_append_0 : decode cX3_append 0 = .ok (.aload_n 0, 1) := by decide +kernel
theorem dX3_append_1 : decode cX3_append 1 = .ok (.getfield 46, 3) := by decide +kernel
theorem dX3_append_4 : decode cX3_append 4 = .ok (.istore 4, 2) := by decide +kernel
theorem dX3_append_6 : decode cX3_append 6 = .ok (.iload 4, 2) := by decide +kernel
theorem dX3_append_8 : decode cX3_append 8 = .ok (.ifCond .lt 10, 3) := by decide +kernel
theorem dX3_append_11 : decode cX3_append 11 = .ok (.iload 4, 2) := by decide +kernel
theorem dX3_append_13 : decode cX3_append 13 = .ok (.bipush 16, 2) := by decide +kernel
theorem dX3_append_15 : decode cX3_append 15 = .ok (.if_icmp .lt 5, 3) := by decide +kernel
theorem dX3_append_18 : decode cX3_append 18 = .ok (.iconst (-1), 1) := by decide +kernel
theorem dX3_append_19 : decode cX3_append 19 = .ok (.ireturn, 1) := by decide +kernel
theorem dX3_append_20 : decode cX3_append 20 = .ok (.aload_n 0, 1) := by decide +kernel
theorem dX3_append_21 : decode cX3_append 21 = .ok (.iload 4, 2) := by decide +kernel
theorem dX3_append_23 : decode cX3_append 23 = .ok (.iconst 1, 1) := by decide +kernel
theorem dX3_append_24 : decode cX3_append 24 = .ok (.iadd, 1) := by decide +kernel
theorem dX3_append_25 : decode cX3_append 25 = .ok (.putfield 46, 3) := by decide +kernel
theorem dX3_append_28 : decode cX3_append 28 = .ok (.aload_n 0, 1) := by decide +kernel
theorem dX3_append_29 : decode cX3_append 29 = .ok (.getfield 9, 3) := by decide +kernel
theorem dX3_append_32 : decode cX3_append 32 = .ok (.iload 4, 2) := by decide +kernel
theorem dX3_append_34 : decode cX3_append 34 = .ok (.iload_n 1, 1) := by decide +kernel
theorem dX3_append_35 : decode cX3_append 35 = .ok (.iload_n 2, 1) := by decide +kernel
theorem dX3_append_36 : decode cX3_append 36 = .ok (.invokestatic 56, 3) := by decide +kernel
theorem dX3_append_39 : decode cX3_append 39 = .ok (.iastore, 1) := by decide +kernel
theorem dX3_append_40 : decode cX3_append 40 = .ok (.aload_n 0, 1) := by decide +kernel
theorem dX3_append_41 : decode cX3_append 41 = .ok (.getfield 15, 3) := by decide +kernel
theorem dX3_append_44 : decode cX3_append 44 = .ok (.iload 4, 2) := by decide +kernel
theorem dX3_append_46 : decode cX3_append 46 = .ok (.iload_n 1, 1) := by decide +kernel
theorem dX3_append_47 : decode cX3_append 47 = .ok (.iload_n 2, 1) := by decide +kernel
theorem dX3_append_48 : decode cX3_append 48 = .ok (.invokestatic 62, 3) := by decide +kernel
theorem dX3_append_51 : decode cX3_append 51 = .ok (.iastore, 1) := by decide +kernel
theorem dX3_append_52 : decode cX3_append 52 = .ok (.aload_n 0, 1) := by decide +kernel
theorem dX3_append_53 : decode cX3_append 53 = .ok (.getfield 18, 3) := by decide +kernel
theorem dX3_append_56 : decode cX3_append 56 = .ok (.iload 4, 2) := by decide +kernel
theorem dX3_append_58 : decode cX3_append 58 = .ok (.iload_n 3, 1) := by decide +kernel
theorem dX3_append_59 : decode cX3_append 59 = .ok (.iastore, 1) := by decide +kernel
theorem dX3_append_60 : decode cX3_append 60 = .ok (.aload_n 0, 1) := by decide +kernel
theorem dX3_append_61 : decode cX3_append 61 = .ok (.getfield 21, 3) := by decide +kernel
theorem dX3_append_64 : decode cX3_append 64 = .ok (.iload 4, 2) := by decide +kernel
theorem dX3_append_66 : decode cX3_append 66 = .ok (.iload_n 3, 1) := by decide +kernel
theorem dX3_append_67 : decode cX3_append 67 = .ok (.iastore, 1) := by decide +kernel
theorem dX3_append_68 : decode cX3_append 68 = .ok (.aload_n 0, 1) := by decide +kernel
theorem dX3_append_69 : decode cX3_append 69 = .ok (.getfield 24, 3) := by decide +kernel
theorem dX3_append_72 : decode cX3_append 72 = .ok (.iload 4, 2) := by decide +kernel
theorem dX3_append_74 : decode cX3_append 74 = .ok (.iconst 1, 1) := by decide +kernel
theorem dX3_append_75 : decode cX3_append 75 = .ok (.bastore, 1) := by decide +kernel
theorem dX3_append_76 : decode cX3_append 76 = .ok (.aload_n 0, 1) := by decide +kernel
theorem dX3_append_77 : decode cX3_append 77 = .ok (.getfield 28, 3) := by decide +kernel
theorem dX3_append_80 : decode cX3_append 80 = .ok (.iload 4, 2) := by decide +kernel
theorem dX3_append_82 : decode cX3_append 82 = .ok (.iconst (-1), 1) := by decide +kernel
theorem dX3_append_83 : decode cX3_append 83 = .ok (.iastore, 1) := by decide +kernel
theorem dX3_append_84 : decode cX3_append 84 = .ok (.aload_n 0, 1) := by decide +kernel
theorem dX3_append_85 : decode cX3_append 85 = .ok (.getfield 31, 3) := by decide +kernel
theorem dX3_append_88 : decode cX3_append 88 = .ok (.iload 4, 2) := by decide +kernel
theorem dX3_append_90 : decode cX3_append 90 = .ok (.iconst 0, 1) := by decide +kernel
theorem dX3_append_91 : decode cX3_append 91 = .ok (.iastore, 1) := by decide +kernel
theorem dX3_append_92 : decode cX3_append 92 = .ok (.aload_n 0, 1) := by decide +kernel
theorem dX3_append_93 : decode cX3_append 93 = .ok (.getfield 34, 3) := by decide +kernel
theorem dX3_append_96 : decode cX3_append 96 = .ok (.iload 4, 2) := by decide +kernel
theorem dX3_append_98 : decode cX3_append 98 = .ok (.iconst 0, 1) := by decide +kernel
theorem dX3_append_99 : decode cX3_append 99 = .ok (.iastore, 1) := by decide +kernel
theorem dX3_append_100 : decode cX3_append 100 = .ok (.iconst 2, 1) := by decide +kernel
theorem dX3_append_101 : decode cX3_append 101 = .ok (.iload 4, 2) := by decide +kernel
theorem dX3_append_103 : decode cX3_append 103 = .ok (.imul, 1) := by decide +kernel
theorem dX3_append_104 : decode cX3_append 104 = .ok (.istore 5, 2) := by decide +kernel
theorem dX3_append_106 : decode cX3_append 106 = .ok (.iload 5, 2) := by decide +kernel
theorem dX3_append_108 : decode cX3_append 108 = .ok (.iconst 2, 1) := by decide +kernel
theorem dX3_append_109 : decode cX3_append 109 = .ok (.iload 4, 2) := by decide +kernel
theorem dX3_append_111 : decode cX3_append 111 = .ok (.imul, 1) := by decide +kernel
theorem dX3_append_112 : decode cX3_append 112 = .ok (.iconst 1, 1) := by decide +kernel
theorem dX3_append_113 : decode cX3_append 113 = .ok (.iadd, 1) := by decide +kernel
theorem dX3_append_114 : decode cX3_append 114 = .ok (.if_icmp .gt 33, 3) := by decide +kernel
theorem dX3_append_117 : decode cX3_append 117 = .ok (.aload_n 0, 1) := by decide +kernel
theorem dX3_append_118 : decode cX3_append 118 = .ok (.getfield 37, 3) := by decide +kernel
theorem dX3_append_121 : decode cX3_append 121 = .ok (.iload 5, 2) := by decide +kernel
theorem dX3_append_123 : decode cX3_append 123 = .ok (.iconst 2, 1) := by decide +kernel
theorem dX3_append_124 : decode cX3_append 124 = .ok (.iastore, 1) := by decide +kernel
theorem dX3_append_125 : decode cX3_append 125 = .ok (.aload_n 0, 1) := by decide +kernel
theorem dX3_append_126 : decode cX3_append 126 = .ok (.getfield 40, 3) := by decide +kernel
theorem dX3_append_129 : decode cX3_append 129 = .ok (.iload 5, 2) := by decide +kernel
theorem dX3_append_131 : decode cX3_append 131 = .ok (.iconst 0, 1) := by decide +kernel
theorem dX3_append_132 : decode cX3_append 132 = .ok (.iastore, 1) := by decide +kernel
theorem dX3_append_133 : decode cX3_append 133 = .ok (.aload_n 0, 1) := by decide +kernel
theorem dX3_append_134 : decode cX3_append 134 = .ok (.getfield 43, 3) := by decide +kernel
theorem dX3_append_137 : decode cX3_append 137 = .ok (.iload 5, 2) := by decide +kernel
theorem dX3_append_139 : decode cX3_append 139 = .ok (.iconst 0, 1) := by decide +kernel
theorem dX3_append_140 : decode cX3_append 140 = .ok (.iastore, 1) := by decide +kernel
theorem dX3_append_141 : decode cX3_append 141 = .ok (.iinc 5 1, 3) := by decide +kernel
theorem dX3_append_144 : decode cX3_append 144 = .ok (.goto (-38), 3) := by decide +kernel
theorem dX3_append_147 : decode cX3_append 147 = .ok (.iload 4, 2) := by decide +kernel
theorem dX3_append_149 : decode cX3_append 149 = .ok (.ireturn, 1) := by decide +kernel
theorem dX3_bringUp_0 : decode cX3_bringUp 0 = .ok (.aload_n 0, 1) := by decide +kernel
theorem dX3_bringUp_1 : decode cX3_bringUp 1 = .ok (.getfield 24, 3) := by decide +kernel
theorem dX3_bringUp_4 : decode cX3_bringUp 4 = .ok (.iload_n 1, 1) := by decide +kernel
theorem dX3_bringUp_5 : decode cX3_bringUp 5 = .ok (.iconst 1, 1) := by decide +kernel
theorem dX3_bringUp_6 : decode cX3_bringUp 6 = .ok (.bastore, 1) := by decide +kernel
theorem dX3_bringUp_7 : decode cX3_bringUp 7 = .ok (.iconst 0, 1) := by decide +kernel
theorem dX3_bringUp_8 : decode cX3_bringUp 8 = .ok (.istore_n 2, 1) := by decide +kernel
theorem dX3_bringUp_9 : decode cX3_bringUp 9 = .ok (.iconst 0, 1) := by decide +kernel
theorem dX3_bringUp_10 : decode cX3_bringUp 10 = .ok (.istore_n 3, 1) := by decide +kernel
theorem dX3_bringUp_11 : decode cX3_bringUp 11 = .ok (.iload_n 3, 1) := by decide +kernel
theorem dX3_bringUp_12 : decode cX3_bringUp 12 = .ok (.aload_n 0, 1) := by decide +kernel
theorem dX3_bringUp_13 : decode cX3_bringUp 13 = .ok (.getfield 46, 3) := by decide +kernel
theorem dX3_bringUp_16 : decode cX3_bringUp 16 = .ok (.if_icmp .ge 21, 3) := by decide +kernel
theorem dX3_bringUp_19 : decode cX3_bringUp 19 = .ok (.aload_n 0, 1) := by decide +kernel
theorem dX3_bringUp_20 : decode cX3_bringUp 20 = .ok (.getfield 24, 3) := by decide +kernel
theorem dX3_bringUp_23 : decode cX3_bringUp 23 = .ok (.iload_n 3, 1) := by decide +kernel
theorem dX3_bringUp_24 : decode cX3_bringUp 24 = .ok (.baload, 1) := by decide +kernel
theorem dX3_bringUp_25 : decode cX3_bringUp 25 = .ok (.ifCond .eq 6, 3) := by decide +kernel
theorem dX3_bringUp_28 : decode cX3_bringUp 28 = .ok (.iinc 2 1, 3) := by decide +kernel
theorem dX3_bringUp_31 : decode cX3_bringUp 31 = .ok (.iinc 3 1, 3) := by decide +kernel
theorem dX3_bringUp_34 : decode cX3_bringUp 34 = .ok (.goto (-23), 3) := by decide +kernel
theorem dX3_bringUp_37 : decode cX3_bringUp 37 = .ok (.iload_n 2, 1) := by decide +kernel
theorem dX3_bringUp_38 : decode cX3_bringUp 38 = .ok (.ireturn, 1) := by decide +kernel
theorem dX3_touches_0 : decode cX3_touches 0 = .ok (.aload_n 0, 1) := by decide +kernel
theorem dX3_touches_1 : decode cX3_touches 1 = .ok (.getfield 9, 3) := by decide +kernel
theorem dX3_touches_4 : decode cX3_touches 4 = .ok (.iload_n 1, 1) := by decide +kernel
theorem dX3_touches_5 : decode cX3_touches 5 = .ok (.iaload, 1) := by decide +kernel
theorem dX3_touches_6 : decode cX3_touches 6 = .ok (.iload_n 2, 1) := by decide +kernel
theorem dX3_touches_7 : decode cX3_touches 7 = .ok (.if_icmp .eq 13, 3) := by decide +kernel
theorem dX3_touches_10 : decode cX3_touches 10 = .ok (.aload_n 0, 1) := by decide +kernel
theorem dX3_touches_11 : decode cX3_touches 11 = .ok (.getfield 15, 3) := by decide +kernel
theorem dX3_touches_14 : decode cX3_touches 14 = .ok (.iload_n 1, 1) := by decide +kernel
theorem dX3_touches_15 : decode cX3_touches 15 = .ok (.iaload, 1) := by decide +kernel
theorem dX3_touches_16 : decode cX3_touches 16 = .ok (.iload_n 2, 1) := by decide +kernel
theorem dX3_touches_17 : decode cX3_touches 17 = .ok (.if_icmp .ne 7, 3) := by decide +kernel
theorem dX3_touches_20 : decode cX3_touches 20 = .ok (.iconst 1, 1) := by decide +kernel
theorem dX3_touches_21 : decode cX3_touches 21 = .ok (.goto 4, 3) := by decide +kernel
theorem dX3_touches_24 : decode cX3_touches 24 = .ok (.iconst 0, 1) := by decide +kernel
theorem dX3_touches_25 : decode cX3_touches 25 = .ok (.ireturn, 1) := by decide +kernel
theorem dX3_otherEnd_0 : decode cX3_otherEnd 0 = .ok (.aload_n 0, 1) := by decide +kernel
theorem dX3_otherEnd_1 : decode cX3_otherEnd 1 = .ok (.getfield 9, 3) := by decide +kernel
theorem dX3_otherEnd_4 : decode cX3_otherEnd 4 = .ok (.iload_n 1, 1) := by decide +kernel
theorem dX3_otherEnd_5 : decode cX3_otherEnd 5 = .ok (.iaload, 1) := by decide +kernel
theorem dX3_otherEnd_6 : decode cX3_otherEnd 6 = .ok (.iload_n 2, 1) := by decide +kernel
theorem dX3_otherEnd_7 : decode cX3_otherEnd 7 = .ok (.if_icmp .ne 12, 3) := by decide +kernel
theorem dX3_otherEnd_10 : decode cX3_otherEnd 10 = .ok (.aload_n 0, 1) := by decide +kernel
theorem dX3_otherEnd_11 : decode cX3_otherEnd 11 = .ok (.getfield 15, 3) := by decide +kernel
theorem dX3_otherEnd_14 : decode cX3_otherEnd 14 = .ok (.iload_n 1, 1) := by decide +kernel
theorem dX3_otherEnd_15 : decode cX3_otherEnd 15 = .ok (.iaload, 1) := by decide +kernel
theorem dX3_otherEnd_16 : decode cX3_otherEnd 16 = .ok (.goto 9, 3) := by decide +kernel
theorem dX3_otherEnd_19 : decode cX3_otherEnd 19 = .ok (.aload_n 0, 1) := by decide +kernel
theorem dX3_otherEnd_20 : decode cX3_otherEnd 20 = .ok (.getfield 9, 3) := by decide +kernel
theorem dX3_otherEnd_23 : decode cX3_otherEnd 23 = .ok (.iload_n 1, 1) := by decide +kernel
theorem dX3_otherEnd_24 : decode cX3_otherEnd 24 = .ok (.iaload, 1) := by decide +kernel
theorem dX3_otherEnd_25 : decode cX3_otherEnd 25 = .ok (.ireturn, 1) := by decide +kernel
theorem dX3_carries_0 : decode cX3_carries 0 = .ok (.aload_n 0, 1) := by decide +kernel
theorem dX3_carries_1 : decode cX3_carries 1 = .ok (.iload_n 1, 1) := by decide +kernel
theorem dX3_carries_2 : decode cX3_carries 2 = .ok (.invokevirtual 65, 3) := by decide +kernel
theorem dX3_carries_5 : decode cX3_carries 5 = .ok (.ifCond .eq 42, 3) := by decide +kernel
theorem dX3_carries_8 : decode cX3_carries 8 = .ok (.aload_n 0, 1) := by decide +kernel
theorem dX3_carries_9 : decode cX3_carries 9 = .ok (.getfield 24, 3) := by decide +kernel
theorem dX3_carries_12 : decode cX3_carries 12 = .ok (.iload_n 1, 1) := by decide +kernel
theorem dX3_carries_13 : decode cX3_carries 13 = .ok (.baload, 1) := by decide +kernel
theorem dX3_carries_14 : decode cX3_carries 14 = .ok (.ifCond .eq 33, 3) := by decide +kernel
theorem dX3_carries_17 : decode cX3_carries 17 = .ok (.aload_n 0, 1) := by decide +kernel
theorem dX3_carries_18 : decode cX3_carries 18 = .ok (.getfield 40, 3) := by decide +kernel
theorem dX3_carries_21 : decode cX3_carries 21 = .ok (.iconst 2, 1) := by decide +kernel
theorem dX3_carries_22 : decode cX3_carries 22 = .ok (.iload_n 1, 1) := by decide +kernel
theorem dX3_carries_23 : decode cX3_carries 23 = .ok (.imul, 1) := by decide +kernel
theorem dX3_carries_24 : decode cX3_carries 24 = .ok (.iaload, 1) := by decide +kernel
theorem dX3_carries_25 : decode cX3_carries 25 = .ok (.iconst 3, 1) := by decide +kernel
theorem dX3_carries_26 : decode cX3_carries 26 = .ok (.if_icmp .ne 21, 3) := by decide +kernel
theorem dX3_carries_29 : decode cX3_carries 29 = .ok (.aload_n 0, 1) := by decide +kernel
theorem dX3_carries_30 : decode cX3_carries 30 = .ok (.getfield 40, 3) := by decide +kernel
theorem dX3_carries_33 : decode cX3_carries 33 = .ok (.iconst 2, 1) := by decide +kernel
theorem dX3_carries_34 : decode cX3_carries 34 = .ok (.iload_n 1, 1) := by decide +kernel
theorem dX3_carries_35 : decode cX3_carries 35 = .ok (.imul, 1) := by decide +kernel
theorem dX3_carries_36 : decode cX3_carries 36 = .ok (.iconst 1, 1) := by decide +kernel
theorem dX3_carries_37 : decode cX3_carries 37 = .ok (.iadd, 1) := by decide +kernel
theorem dX3_carries_38 : decode cX3_carries 38 = .ok (.iaload, 1) := by decide +kernel
theorem dX3_carries_39 : decode cX3_carries 39 = .ok (.iconst 3, 1) := by decide +kernel
theorem dX3_carries_40 : decode cX3_carries 40 = .ok (.if_icmp .ne 7, 3) := by decide +kernel
theorem dX3_carries_43 : decode cX3_carries 43 = .ok (.iconst 1, 1) := by decide +kernel
theorem dX3_carries_44 : decode cX3_carries 44 = .ok (.goto 4, 3) := by decide +kernel
theorem dX3_carries_47 : decode cX3_carries 47 = .ok (.iconst 0, 1) := by decide +kernel
theorem dX3_carries_48 : decode cX3_carries 48 = .ok (.ireturn, 1) := by decide +kernel
theorem dX3_countCarrying_0 : decode cX3_countCarrying 0 = .ok (.iconst 0, 1) := by decide +kernel
theorem dX3_countCarrying_1 : decode cX3_countCarrying 1 = .ok (.istore_n 1, 1) := by decide +kernel
theorem dX3_countCarrying_2 : decode cX3_countCarrying 2 = .ok (.iconst 0, 1) := by decide +kernel
theorem dX3_countCarrying_3 : decode cX3_countCarrying 3 = .ok (.istore_n 2, 1) := by decide +kernel
theorem dX3_countCarrying_4 : decode cX3_countCarrying 4 = .ok (.iload_n 2, 1) := by decide +kernel
theorem dX3_countCarrying_5 : decode cX3_countCarrying 5 = .ok (.aload_n 0, 1) := by decide +kernel
theorem dX3_countCarrying_6 : decode cX3_countCarrying 6 = .ok (.getfield 46, 3) := by decide +kernel
theorem dX3_countCarrying_9 : decode cX3_countCarrying 9 = .ok (.if_icmp .ge 20, 3) := by decide +kernel
theorem dX3_countCarrying_12 : decode cX3_countCarrying 12 = .ok (.aload_n 0, 1) := by decide +kernel
theorem dX3_countCarrying_13 : decode cX3_countCarrying 13 = .ok (.iload_n 2, 1) := by decide +kernel
theorem dX3_countCarrying_14 : decode cX3_countCarrying 14 = .ok (.invokevirtual 69, 3) := by decide +kernel
theorem dX3_countCarrying_17 : decode cX3_countCarrying 17 = .ok (.ifCond .eq 6, 3) := by decide +kernel
theorem dX3_countCarrying_20 : decode cX3_countCarrying 20 = .ok (.iinc 1 1, 3) := by decide +kernel
theorem dX3_countCarrying_23 : decode cX3_countCarrying 23 = .ok (.iinc 2 1, 3) := by decide +kernel
theorem dX3_countCarrying_26 : decode cX3_countCarrying 26 = .ok (.goto (-22), 3) := by decide +kernel
theorem dX3_countCarrying_29 : decode cX3_countCarrying 29 = .ok (.iload_n 1, 1) := by decide +kernel
theorem dX3_countCarrying_30 : decode cX3_countCarrying 30 = .ok (.ireturn, 1) := by decide +kernel
theorem dX3_countWonBy_0 : decode cX3_countWonBy 0 = .ok (.iconst 0, 1) := by decide +kernel
theorem dX3_countWonBy_1 : decode cX3_countWonBy 1 = .ok (.istore_n 2, 1) := by decide +kernel
theorem dX3_countWonBy_2 : decode cX3_countWonBy 2 = .ok (.iconst 0, 1) := by decide +kernel
theorem dX3_countWonBy_3 : decode cX3_countWonBy 3 = .ok (.istore_n 3, 1) := by decide +kernel
theorem dX3_countWonBy_4 : decode cX3_countWonBy 4 = .ok (.iload_n 3, 1) := by decide +kernel
theorem dX3_countWonBy_5 : decode cX3_countWonBy 5 = .ok (.aload_n 0, 1) := by decide +kernel
theorem dX3_countWonBy_6 : decode cX3_countWonBy 6 = .ok (.getfield 46, 3) := by decide +kernel
theorem dX3_countWonBy_9 : decode cX3_countWonBy 9 = .ok (.if_icmp .ge 22, 3) := by decide +kernel
theorem dX3_countWonBy_12 : decode cX3_countWonBy 12 = .ok (.aload_n 0, 1) := by decide +kernel
theorem dX3_countWonBy_13 : decode cX3_countWonBy 13 = .ok (.getfield 28, 3) := by decide +kernel
theorem dX3_countWonBy_16 : decode cX3_countWonBy 16 = .ok (.iload_n 3, 1) := by decide +kernel
theorem dX3_countWonBy_17 : decode cX3_countWonBy 17 = .ok (.iaload, 1) := by decide +kernel
theorem dX3_countWonBy_18 : decode cX3_countWonBy 18 = .ok (.iload_n 1, 1) := by decide +kernel
theorem dX3_countWonBy_19 : decode cX3_countWonBy 19 = .ok (.if_icmp .ne 6, 3) := by decide +kernel
theorem dX3_countWonBy_22 : decode cX3_countWonBy 22 = .ok (.iinc 2 1, 3) := by decide +kernel
theorem dX3_countWonBy_25 : decode cX3_countWonBy 25 = .ok (.iinc 3 1, 3) := by decide +kernel
theorem dX3_countWonBy_28 : decode cX3_countWonBy 28 = .ok (.goto (-24), 3) := by decide +kernel
theorem dX3_countWonBy_31 : decode cX3_countWonBy 31 = .ok (.iload_n 2, 1) := by decide +kernel
theorem dX3_countWonBy_32 : decode cX3_countWonBy 32 = .ok (.ireturn, 1) := by decide +kernel
theorem dX3_valueOf_0 : decode cX3_valueOf 0 = .ok (.iload_n 2, 1) := by decide +kernel
theorem dX3_valueOf_1 : decode cX3_valueOf 1 = .ok (.tableswitch 118 0 7 #[47, 54, 61, 68, 75, 90, 97, 104], 47) := by decide +kernel
theorem dX3_valueOf_48 : decode cX3_valueOf 48 = .ok (.aload_n 0, 1) := by decide +kernel
theorem dX3_valueOf_49 : decode cX3_valueOf 49 = .ok (.getfield 9, 3) := by decide +kernel
theorem dX3_valueOf_52 : decode cX3_valueOf 52 = .ok (.iload_n 1, 1) := by decide +kernel
theorem dX3_valueOf_53 : decode cX3_valueOf 53 = .ok (.iaload, 1) := by decide +kernel
theorem dX3_valueOf_54 : decode cX3_valueOf 54 = .ok (.ireturn, 1) := by decide +kernel
theorem dX3_valueOf_55 : decode cX3_valueOf 55 = .ok (.aload_n 0, 1) := by decide +kernel
theorem dX3_valueOf_56 : decode cX3_valueOf 56 = .ok (.getfield 15, 3) := by decide +kernel
theorem dX3_valueOf_59 : decode cX3_valueOf 59 = .ok (.iload_n 1, 1) := by decide +kernel
theorem dX3_valueOf_60 : decode cX3_valueOf 60 = .ok (.iaload, 1) := by decide +kernel
theorem dX3_valueOf_61 : decode cX3_valueOf 61 = .ok (.ireturn, 1) := by decide +kernel
theorem dX3_valueOf_62 : decode cX3_valueOf 62 = .ok (.aload_n 0, 1) := by decide +kernel
theorem dX3_valueOf_63 : decode cX3_valueOf 63 = .ok (.getfield 18, 3) := by decide +kernel
theorem dX3_valueOf_66 : decode cX3_valueOf 66 = .ok (.iload_n 1, 1) := by decide +kernel
theorem dX3_valueOf_67 : decode cX3_valueOf 67 = .ok (.iaload, 1) := by decide +kernel
theorem dX3_valueOf_68 : decode cX3_valueOf 68 = .ok (.ireturn, 1) := by decide +kernel
theorem dX3_valueOf_69 : decode cX3_valueOf 69 = .ok (.aload_n 0, 1) := by decide +kernel
theorem dX3_valueOf_70 : decode cX3_valueOf 70 = .ok (.getfield 21, 3) := by decide +kernel
theorem dX3_valueOf_73 : decode cX3_valueOf 73 = .ok (.iload_n 1, 1) := by decide +kernel
theorem dX3_valueOf_74 : decode cX3_valueOf 74 = .ok (.iaload, 1) := by decide +kernel
theorem dX3_valueOf_75 : decode cX3_valueOf 75 = .ok (.ireturn, 1) := by decide +kernel
theorem dX3_valueOf_76 : decode cX3_valueOf 76 = .ok (.aload_n 0, 1) := by decide +kernel
theorem dX3_valueOf_77 : decode cX3_valueOf 77 = .ok (.getfield 24, 3) := by decide +kernel
theorem dX3_valueOf_80 : decode cX3_valueOf 80 = .ok (.iload_n 1, 1) := by decide +kernel
theorem dX3_valueOf_81 : decode cX3_valueOf 81 = .ok (.baload, 1) := by decide +kernel
theorem dX3_valueOf_82 : decode cX3_valueOf 82 = .ok (.ifCond .eq 7, 3) := by decide +kernel
theorem dX3_valueOf_85 : decode cX3_valueOf 85 = .ok (.iconst 1, 1) := by decide +kernel
theorem dX3_valueOf_86 : decode cX3_valueOf 86 = .ok (.goto 4, 3) := by decide +kernel
theorem dX3_valueOf_89 : decode cX3_valueOf 89 = .ok (.iconst 0, 1) := by decide +kernel
theorem dX3_valueOf_90 : decode cX3_valueOf 90 = .ok (.ireturn, 1) := by decide +kernel
theorem dX3_valueOf_91 : decode cX3_valueOf 91 = .ok (.aload_n 0, 1) := by decide +kernel
theorem dX3_valueOf_92 : decode cX3_valueOf 92 = .ok (.getfield 28, 3) := by decide +kernel
theorem dX3_valueOf_95 : decode cX3_valueOf 95 = .ok (.iload_n 1, 1) := by decide +kernel
theorem dX3_valueOf_96 : decode cX3_valueOf 96 = .ok (.iaload, 1) := by decide +kernel
theorem dX3_valueOf_97 : decode cX3_valueOf 97 = .ok (.ireturn, 1) := by decide +kernel
theorem dX3_valueOf_98 : decode cX3_valueOf 98 = .ok (.aload_n 0, 1) := by decide +kernel
theorem dX3_valueOf_99 : decode cX3_valueOf 99 = .ok (.getfield 31, 3) := by decide +kernel
theorem dX3_valueOf_102 : decode cX3_valueOf 102 = .ok (.iload_n 1, 1) := by decide +kernel
theorem dX3_valueOf_103 : decode cX3_valueOf 103 = .ok (.iaload, 1) := by decide +kernel
theorem dX3_valueOf_104 : decode cX3_valueOf 104 = .ok (.ireturn, 1) := by decide +kernel
theorem dX3_valueOf_105 : decode cX3_valueOf 105 = .ok (.aload_n 0, 1) := by decide +kernel
theorem dX3_valueOf_106 : decode cX3_valueOf 106 = .ok (.iload_n 1, 1) := by decide +kernel
theorem dX3_valueOf_107 : decode cX3_valueOf 107 = .ok (.invokevirtual 69, 3) := by decide +kernel
theorem dX3_valueOf_110 : decode cX3_valueOf 110 = .ok (.ifCond .eq 7, 3) := by decide +kernel
theorem dX3_valueOf_113 : decode cX3_valueOf 113 = .ok (.iconst 1, 1) := by decide +kernel
theorem dX3_valueOf_114 : decode cX3_valueOf 114 = .ok (.goto 4, 3) := by decide +kernel
theorem dX3_valueOf_117 : decode cX3_valueOf 117 = .ok (.iconst 0, 1) := by decide +kernel
theorem dX3_valueOf_118 : decode cX3_valueOf 118 = .ok (.ireturn, 1) := by decide +kernel
theorem dX3_valueOf_119 : decode cX3_valueOf 119 = .ok (.aload_n 0, 1) := by decide +kernel
theorem dX3_valueOf_120 : decode cX3_valueOf 120 = .ok (.getfield 34, 3) := by decide +kernel
theorem dX3_valueOf_123 : decode cX3_valueOf 123 = .ok (.iload_n 1, 1) := by decide +kernel
theorem dX3_valueOf_124 : decode cX3_valueOf 124 = .ok (.iaload, 1) := by decide +kernel
theorem dX3_valueOf_125 : decode cX3_valueOf 125 = .ok (.ireturn, 1) := by decide +kernel
theorem dX4_init_0 : decode cX4_init 0 = .ok (.aload_n 0, 1) := by decide +kernel
theorem dX4_init_1 : decode cX4_init 1 = .ok (.invokespecial 3, 3) := by decide +kernel
theorem dX4_init_4 : decode cX4_init 4 = .ok (.aload_n 0, 1) := by decide +kernel
theorem dX4_init_5 : decode cX4_init 5 = .ok (.iconst 3, 1) := by decide +kernel
theorem dX4_init_6 : decode cX4_init 6 = .ok (.putfield 9, 3) := by decide +kernel
theorem dX4_init_9 : decode cX4_init 9 = .ok (.aload_n 0, 1) := by decide +kernel
theorem dX4_init_10 : decode cX4_init 10 = .ok (.bipush 10, 2) := by decide +kernel
theorem dX4_init_12 : decode cX4_init 12 = .ok (.putfield 15, 3) := by decide +kernel
theorem dX4_init_15 : decode cX4_init 15 = .ok (.aload_n 0, 1) := by decide +kernel
theorem dX4_init_16 : decode cX4_init 16 = .ok (.iconst 5, 1) := by decide +kernel
theorem dX4_init_17 : decode cX4_init 17 = .ok (.putfield 18, 3) := by decide +kernel
theorem dX4_init_20 : decode cX4_init 20 = .ok (.aload_n 0, 1) := by decide +kernel
theorem dX4_init_21 : decode cX4_init 21 = .ok (.new 21, 3) := by decide +kernel
theorem dX4_init_24 : decode cX4_init 24 = .ok (.dup, 1) := by decide +kernel
theorem dX4_init_25 : decode cX4_init 25 = .ok (.invokespecial 23, 3) := by decide +kernel
theorem dX4_init_28 : decode cX4_init 28 = .ok (.putfield 24, 3) := by decide +kernel
theorem dX4_init_31 : decode cX4_init 31 = .ok (.aload_n 0, 1) := by decide +kernel
theorem dX4_init_32 : decode cX4_init 32 = .ok (.new 28, 3) := by decide +kernel
theorem dX4_init_35 : decode cX4_init 35 = .ok (.dup, 1) := by decide +kernel
theorem dX4_init_36 : decode cX4_init 36 = .ok (.invokespecial 30, 3) := by decide +kernel
theorem dX4_init_39 : decode cX4_init 39 = .ok (.putfield 31, 3) := by decide +kernel
theorem dX4_init_42 : decode cX4_init 42 = .ok (.aload_n 0, 1) := by decide +kernel
theorem dX4_init_43 : decode cX4_init 43 = .ok (.new 35, 3) := by decide +kernel
theorem dX4_init_46 : decode cX4_init 46 = .ok (.dup, 1) := by decide +kernel
theorem dX4_init_47 : decode cX4_init 47 = .ok (.invokespecial 37, 3) := by decide +kernel
theorem dX4_init_50 : decode cX4_init 50 = .ok (.putfield 38, 3) := by decide +kernel
theorem dX4_init_53 : decode cX4_init 53 = .ok (.return_, 1) := by decide +kernel
theorem dX4_beginAnew_0 : decode cX4_beginAnew 0 = .ok (.aload_n 0, 1) := by decide +kernel
theorem dX4_beginAnew_1 : decode cX4_beginAnew 1 = .ok (.iload_n 1, 1) := by decide +kernel
theorem dX4_beginAnew_2 : decode cX4_beginAnew 2 = .ok (.putfield 42, 3) := by decide +kernel
theorem dX4_beginAnew_5 : decode cX4_beginAnew 5 = .ok (.aload_n 0, 1) := by decide +kernel
theorem dX4_beginAnew_6 : decode cX4_beginAnew 6 = .ok (.iconst 0, 1) := by decide +kernel
theorem dX4_beginAnew_7 : decode cX4_beginAnew 7 = .ok (.putfield 45, 3) := by decide +kernel
theorem dX4_beginAnew_10 : decode cX4_beginAnew 10 = .ok (.aload_n 0, 1) := by decide +kernel
theorem dX4_beginAnew_11 : decode cX4_beginAnew 11 = .ok (.iconst 0, 1) := by decide +kernel
theorem dX4_beginAnew_12 : decode cX4_beginAnew 12 = .ok (.putfield 48, 3) := by decide +kernel
theorem dX4_beginAnew_15 : decode cX4_beginAnew 15 = .ok (.aload_n 0, 1) := by decide +kernel
theorem dX4_beginAnew_16 : decode cX4_beginAnew 16 = .ok (.iconst 0, 1) := by decide +kernel
theorem dX4_beginAnew_17 : decode cX4_beginAnew 17 = .ok (.putfield 51, 3) := by decide +kernel
theorem dX4_beginAnew_20 : decode cX4_beginAnew 20 = .ok (.aload_n 0, 1) := by decide +kernel
theorem dX4_beginAnew_21 : decode cX4_beginAnew 21 = .ok (.iconst 0, 1) := by decide +kernel
theorem dX4_beginAnew_22 : decode cX4_beginAnew 22 = .ok (.putfield 54, 3) := by decide +kernel
theorem dX4_beginAnew_25 : decode cX4_beginAnew 25 = .ok (.aload_n 0, 1) := by decide +kernel
theorem dX4_beginAnew_26 : decode cX4_beginAnew 26 = .ok (.iconst 0, 1) := by decide +kernel
theorem dX4_beginAnew_27 : decode cX4_beginAnew 27 = .ok (.putfield 57, 3) := by decide +kernel
theorem dX4_beginAnew_30 : decode cX4_beginAnew 30 = .ok (.aload_n 0, 1) := by decide +kernel
theorem dX4_beginAnew_31 : decode cX4_beginAnew 31 = .ok (.iconst 0, 1) := by decide +kernel
theorem dX4_beginAnew_32 : decode cX4_beginAnew 32 = .ok (.putfield 60, 3) := by decide +kernel
theorem dX4_beginAnew_35 : decode cX4_beginAnew 35 = .ok (.aload_n 0, 1) := by decide +kernel
theorem dX4_beginAnew_36 : decode cX4_beginAnew 36 = .ok (.getfield 24, 3) := by decide +kernel
theorem dX4_beginAnew_39 : decode cX4_beginAnew 39 = .ok (.iload_n 1, 1) := by decide +kernel
theorem dX4_beginAnew_40 : decode cX4_beginAnew 40 = .ok (.invokevirtual 63, 3) := by decide +kernel
theorem dX4_beginAnew_43 : decode cX4_beginAnew 43 = .ok (.aload_n 0, 1) := by decide +kernel
theorem dX4_beginAnew_44 : decode cX4_beginAnew 44 = .ok (.getfield 31, 3) := by decide +kernel
theorem dX4_beginAnew_47 : decode cX4_beginAnew 47 = .ok (.iconst 0, 1) := by decide +kernel
theorem dX4_beginAnew_48 : decode cX4_beginAnew 48 = .ok (.putfield 67, 3) := by decide +kernel
theorem dX4_beginAnew_51 : decode cX4_beginAnew 51 = .ok (.aload_n 0, 1) := by decide +kernel
theorem dX4_beginAnew_52 : decode cX4_beginAnew 52 = .ok (.getfield 38, 3) := by decide +kernel
theorem dX4_beginAnew_55 : decode cX4_beginAnew 55 = .ok (.invokevirtual 70, 3) := by decide +kernel
theorem dX4_beginAnew_58 : decode cX4_beginAnew 58 = .ok (.return_, 1) := by decide +kernel
theorem dX4_copyFrom_0 : decode cX4_copyFrom 0 = .ok (.aload_n 0, 1) := by decide +kernel
theorem dX4_copyFrom_1 : decode cX4_copyFrom 1 = .ok (.aload_n 1, 1) := by decide +kernel
theorem dX4_copyFrom_2 : decode cX4_copyFrom 2 = .ok (.getfield 42, 3) := by decide +kernel
theorem dX4_copyFrom_5 : decode cX4_copyFrom 5 = .ok (.putfield 42, 3) := by decide +kernel
theorem dX4_copyFrom_8 : decode cX4_copyFrom 8 = .ok (.aload_n 0, 1) := by decide +kernel
theorem dX4_copyFrom_9 : decode cX4_copyFrom 9 = .ok (.aload_n 1, 1) := by decide +kernel
theorem dX4_copyFrom_10 : decode cX4_copyFrom 10 = .ok (.getfield 45, 3) := by decide +kernel
theorem dX4_copyFrom_13 : decode cX4_copyFrom 13 = .ok (.putfield 45, 3) := by decide +kernel
theorem dX4_copyFrom_16 : decode cX4_copyFrom 16 = .ok (.aload_n 0, 1) := by decide +kernel
theorem dX4_copyFrom_17 : decode cX4_copyFrom 17 = .ok (.aload_n 1, 1) := by decide +kernel
theorem dX4_copyFrom_18 : decode cX4_copyFrom 18 = .ok (.getfield 9, 3) := by decide +kernel
theorem dX4_copyFrom_21 : decode cX4_copyFrom 21 = .ok (.putfield 9, 3) := by decide +kernel
theorem dX4_copyFrom_24 : decode cX4_copyFrom 24 = .ok (.aload_n 0, 1) := by decide +kernel
theorem dX4_copyFrom_25 : decode cX4_copyFrom 25 = .ok (.aload_n 1, 1) := by decide +kernel
theorem dX4_copyFrom_26 : decode cX4_copyFrom 26 = .ok (.getfield 15, 3) := by decide +kernel
theorem dX4_copyFrom_29 : decode cX4_copyFrom 29 = .ok (.putfield 15, 3) := by decide +kernel
theorem dX4_copyFrom_32 : decode cX4_copyFrom 32 = .ok (.aload_n 0, 1) := by decide +kernel
theorem dX4_copyFrom_33 : decode cX4_copyFrom 33 = .ok (.aload_n 1, 1) := by decide +kernel
theorem dX4_copyFrom_34 : decode cX4_copyFrom 34 = .ok (.getfield 18, 3) := by decide +kernel
theorem dX4_copyFrom_37 : decode cX4_copyFrom 37 = .ok (.putfield 18, 3) := by decide +kernel
theorem dX4_copyFrom_40 : decode cX4_copyFrom 40 = .ok (.aload_n 0, 1) := by decide +kernel
theorem dX4_copyFrom_41 : decode cX4_copyFrom 41 = .ok (.aload_n 1, 1) := by decide +kernel
theorem dX4_copyFrom_42 : decode cX4_copyFrom 42 = .ok (.getfield 48, 3) := by decide +kernel
theorem dX4_copyFrom_45 : decode cX4_copyFrom 45 = .ok (.putfield 48, 3) := by decide +kernel
theorem dX4_copyFrom_48 : decode cX4_copyFrom 48 = .ok (.aload_n 0, 1) := by decide +kernel
theorem dX4_copyFrom_49 : decode cX4_copyFrom 49 = .ok (.aload_n 1, 1) := by decide +kernel
theorem dX4_copyFrom_50 : decode cX4_copyFrom 50 = .ok (.getfield 51, 3) := by decide +kernel
theorem dX4_copyFrom_53 : decode cX4_copyFrom 53 = .ok (.putfield 51, 3) := by decide +kernel
theorem dX4_copyFrom_56 : decode cX4_copyFrom 56 = .ok (.aload_n 0, 1) := by decide +kernel
theorem dX4_copyFrom_57 : decode cX4_copyFrom 57 = .ok (.aload_n 1, 1) := by decide +kernel
theorem dX4_copyFrom_58 : decode cX4_copyFrom 58 = .ok (.getfield 54, 3) := by decide +kernel
theorem dX4_copyFrom_61 : decode cX4_copyFrom 61 = .ok (.putfield 54, 3) := by decide +kernel
theorem dX4_copyFrom_64 : decode cX4_copyFrom 64 = .ok (.aload_n 0, 1) := by decide +kernel
theorem dX4_copyFrom_65 : decode cX4_copyFrom 65 = .ok (.aload_n 1, 1) := by decide +kernel
theorem dX4_copyFrom_66 : decode cX4_copyFrom 66 = .ok (.getfield 57, 3) := by decide +kernel
theorem dX4_copyFrom_69 : decode cX4_copyFrom 69 = .ok (.putfield 57, 3) := by decide +kernel
theorem dX4_copyFrom_72 : decode cX4_copyFrom 72 = .ok (.aload_n 0, 1) := by decide +kernel
theorem dX4_copyFrom_73 : decode cX4_copyFrom 73 = .ok (.aload_n 1, 1) := by decide +kernel
theorem dX4_copyFrom_74 : decode cX4_copyFrom 74 = .ok (.getfield 60, 3) := by decide +kernel
theorem dX4_copyFrom_77 : decode cX4_copyFrom 77 = .ok (.putfield 60, 3) := by decide +kernel
theorem dX4_copyFrom_80 : decode cX4_copyFrom 80 = .ok (.aload_n 0, 1) := by decide +kernel
theorem dX4_copyFrom_81 : decode cX4_copyFrom 81 = .ok (.getfield 24, 3) := by decide +kernel
theorem dX4_copyFrom_84 : decode cX4_copyFrom 84 = .ok (.aload_n 1, 1) := by decide +kernel
theorem dX4_copyFrom_85 : decode cX4_copyFrom 85 = .ok (.getfield 24, 3) := by decide +kernel
theorem dX4_copyFrom_88 : decode cX4_copyFrom 88 = .ok (.invokevirtual 72, 3) := by decide +kernel
theorem dX4_copyFrom_91 : decode cX4_copyFrom 91 = .ok (.aload_n 0, 1) := by decide +kernel
theorem dX4_copyFrom_92 : decode cX4_copyFrom 92 = .ok (.getfield 31, 3) := by decide +kernel
theorem dX4_copyFrom_95 : decode cX4_copyFrom 95 = .ok (.aload_n 1, 1) := by decide +kernel
theorem dX4_copyFrom_96 : decode cX4_copyFrom 96 = .ok (.getfield 31, 3) := by decide +kernel
theorem dX4_copyFrom_99 : decode cX4_copyFrom 99 = .ok (.invokevirtual 76, 3) := by decide +kernel
theorem dX4_copyFrom_102 : decode cX4_copyFrom 102 = .ok (.aload_n 0, 1) := by decide +kernel
theorem dX4_copyFrom_103 : decode cX4_copyFrom 103 = .ok (.getfield 38, 3) := by decide +kernel
theorem dX4_copyFrom_106 : decode cX4_copyFrom 106 = .ok (.aload_n 1, 1) := by decide +kernel
theorem dX4_copyFrom_107 : decode cX4_copyFrom 107 = .ok (.getfield 38, 3) := by decide +kernel
theorem dX4_copyFrom_110 : decode cX4_copyFrom 110 = .ok (.invokevirtual 79, 3) := by decide +kernel
theorem dX4_copyFrom_113 : decode cX4_copyFrom 113 = .ok (.return_, 1) := by decide +kernel
theorem dX4_faultOfPriority_0 : decode cX4_faultOfPriority 0 = .ok (.iload_n 1, 1) := by decide +kernel
theorem dX4_faultOfPriority_1 : decode cX4_faultOfPriority 1 = .ok (.iconst 0, 1) := by decide +kernel
theorem dX4_faultOfPriority_2 : decode cX4_faultOfPriority 2 = .ok (.aload_n 0, 1) := by decide +kernel
theorem dX4_faultOfPriority_3 : decode cX4_faultOfPriority 3 = .ok (.getfield 42, 3) := by decide +kernel
theorem dX4_faultOfPriority_6 : decode cX4_faultOfPriority 6 = .ok (.iconst 1, 1) := by decide +kernel
theorem dX4_faultOfPriority_7 : decode cX4_faultOfPriority 7 = .ok (.isub, 1) := by decide +kernel
theorem dX4_faultOfPriority_8 : decode cX4_faultOfPriority 8 = .ok (.invokestatic 82, 3) := by decide +kernel
theorem dX4_faultOfPriority_11 : decode cX4_faultOfPriority 11 = .ok (.ifCond .eq 5, 3) := by decide +kernel
theorem dX4_faultOfPriority_14 : decode cX4_faultOfPriority 14 = .ok (.iconst 1, 1) := by decide +kernel
theorem dX4_faultOfPriority_15 : decode cX4_faultOfPriority 15 = .ok (.ireturn, 1) := by decide +kernel
theorem dX4_faultOfPriority_16 : decode cX4_faultOfPriority 16 = .ok (.iload_n 2, 1) := by decide +kernel
theorem dX4_faultOfPriority_17 : decode cX4_faultOfPriority 17 = .ok (.iconst 0, 1) := by decide +kernel
theorem dX4_faultOfPriority_18 : decode cX4_faultOfPriority 18 = .ok (.bipush 9, 2) := by decide +kernel
theorem dX4_faultOfPriority_20 : decode cX4_faultOfPriority 20 = .ok (.invokestatic 82, 3) := by decide +kernel
theorem dX4_faultOfPriority_23 : decode cX4_faultOfPriority 23 = .ok (.ifCond .eq 7, 3) := by decide +kernel
theorem dX4_faultOfPriority_26 : decode cX4_faultOfPriority 26 = .ok (.iconst 2, 1) := by decide +kernel
theorem dX4_faultOfPriority_27 : decode cX4_faultOfPriority 27 = .ok (.goto 4, 3) := by decide +kernel
theorem dX4_faultOfPriority_30 : decode cX4_faultOfPriority 30 = .ok (.iconst 0, 1) := by decide +kernel
theorem dX4_faultOfPriority_31 : decode cX4_faultOfPriority 31 = .ok (.ireturn, 1) := by decide +kernel
theorem dX4_faultOfNewLink_0 : decode cX4_faultOfNewLink 0 = .ok (.iload_n 1, 1) := by decide +kernel
theorem dX4_faultOfNewLink_1 : decode cX4_faultOfNewLink 1 = .ok (.iconst 0, 1) := by decide +kernel
theorem dX4_faultOfNewLink_2 : decode cX4_faultOfNewLink 2 = .ok (.aload_n 0, 1) := by decide +kernel
theorem dX4_faultOfNewLink_3 : decode cX4_faultOfNewLink 3 = .ok (.getfield 42, 3) := by decide +kernel
theorem dX4_faultOfNewLink_6 : decode cX4_faultOfNewLink 6 = .ok (.iconst 1, 1) := by decide +kernel
theorem dX4_faultOfNewLink_7 : decode cX4_faultOfNewLink 7 = .ok (.isub, 1) := by decide +kernel
theorem dX4_faultOfNewLink_8 : decode cX4_faultOfNewLink 8 = .ok (.invokestatic 82, 3) := by decide +kernel
theorem dX4_faultOfNewLink_11 : decode cX4_faultOfNewLink 11 = .ok (.ifCond .ne 17, 3) := by decide +kernel
theorem dX4_faultOfNewLink_14 : decode cX4_faultOfNewLink 14 = .ok (.iload_n 2, 1) := by decide +kernel
theorem dX4_faultOfNewLink_15 : decode cX4_faultOfNewLink 15 = .ok (.iconst 0, 1) := by decide +kernel
theorem dX4_faultOfNewLink_16 : decode cX4_faultOfNewLink 16 = .ok (.aload_n 0, 1) := by decide +kernel
theorem dX4_faultOfNewLink_17 : decode cX4_faultOfNewLink 17 = .ok (.getfield 42, 3) := by decide +kernel
theorem dX4_faultOfNewLink_20 : decode cX4_faultOfNewLink 20 = .ok (.iconst 1, 1) := by decide +kernel
theorem dX4_faultOfNewLink_21 : decode cX4_faultOfNewLink 21 = .ok (.isub, 1) := by decide +kernel
theorem dX4_faultOfNewLink_22 : decode cX4_faultOfNewLink 22 = .ok (.invokestatic 82, 3) := by decide +kernel
theorem dX4_faultOfNewLink_25 : decode cX4_faultOfNewLink 25 = .ok (.ifCond .eq 5, 3) := by decide +kernel
theorem dX4_faultOfNewLink_28 : decode cX4_faultOfNewLink 28 = .ok (.iconst 1, 1) := by decide +kernel
theorem dX4_faultOfNewLink_29 : decode cX4_faultOfNewLink 29 = .ok (.ireturn, 1) := by decide +kernel
theorem dX4_faultOfNewLink_30 : decode cX4_faultOfNewLink 30 = .ok (.iload_n 1, 1) := by decide +kernel
theorem dX4_faultOfNewLink_31 : decode cX4_faultOfNewLink 31 = .ok (.iload_n 2, 1) := by decide +kernel
theorem dX4_faultOfNewLink_32 : decode cX4_faultOfNewLink 32 = .ok (.if_icmp .eq 13, 3) := by decide +kernel
theorem dX4_faultOfNewLink_35 : decode cX4_faultOfNewLink 35 = .ok (.iload_n 3, 1) := by decide +kernel
theorem dX4_faultOfNewLink_36 : decode cX4_faultOfNewLink 36 = .ok (.iconst 1, 1) := by decide +kernel
theorem dX4_faultOfNewLink_37 : decode cX4_faultOfNewLink 37 = .ok (.bipush 100, 2) := by decide +kernel
theorem dX4_faultOfNewLink_39 : decode cX4_faultOfNewLink 39 = .ok (.invokestatic 82, 3) := by decide +kernel
theorem dX4_faultOfNewLink_42 : decode cX4_faultOfNewLink 42 = .ok (.ifCond .eq 5, 3) := by decide +kernel
theorem dX4_faultOfNewLink_45 : decode cX4_faultOfNewLink 45 = .ok (.iconst 2, 1) := by decide +kernel
theorem dX4_faultOfNewLink_46 : decode cX4_faultOfNewLink 46 = .ok (.ireturn, 1) := by decide +kernel
theorem dX4_faultOfNewLink_47 : decode cX4_faultOfNewLink 47 = .ok (.aload_n 0, 1) := by decide +kernel
theorem dX4_faultOfNewLink_48 : decode cX4_faultOfNewLink 48 = .ok (.getfield 31, 3) := by decide +kernel
theorem dX4_faultOfNewLink_51 : decode cX4_faultOfNewLink 51 = .ok (.getfield 67, 3) := by decide +kernel
theorem dX4_faultOfNewLink_54 : decode cX4_faultOfNewLink 54 = .ok (.bipush 16, 2) := by decide +kernel
theorem dX4_faultOfNewLink_56 : decode cX4_faultOfNewLink 56 = .ok (.if_icmp .lt 7, 3) := by decide +kernel
theorem dX4_faultOfNewLink_59 : decode cX4_faultOfNewLink 59 = .ok (.iconst 3, 1) := by decide +kernel
theorem dX4_faultOfNewLink_60 : decode cX4_faultOfNewLink 60 = .ok (.goto 4, 3) := by decide +kernel
theorem dX4_faultOfNewLink_63 : decode cX4_faultOfNewLink 63 = .ok (.iconst 0, 1) := by decide +kernel
theorem dX4_faultOfNewLink_64 : decode cX4_faultOfNewLink 64 = .ok (.ireturn, 1) := by decide +kernel
theorem dX4_faultOfSwitch_0 : decode cX4_faultOfSwitch 0 = .ok (.aload_n 0, 1) := by decide +kernel
theorem dX4_faultOfSwitch_1 : decode cX4_faultOfSwitch 1 = .ok (.getfield 31, 3) := by decide +kernel
theorem dX4_faultOfSwitch_4 : decode cX4_faultOfSwitch 4 = .ok (.iload_n 1, 1) := by decide +kernel
theorem dX4_faultOfSwitch_5 : decode cX4_faultOfSwitch 5 = .ok (.invokevirtual 86, 3) := by decide +kernel
theorem dX4_faultOfSwitch_8 : decode cX4_faultOfSwitch 8 = .ok (.ifCond .ne 5, 3) := by decide +kernel
theorem dX4_faultOfSwitch_11 : decode cX4_faultOfSwitch 11 = .ok (.iconst 1, 1) := by decide +kernel
theorem dX4_faultOfSwitch_12 : decode cX4_faultOfSwitch 12 = .ok (.ireturn, 1) := by decide +kernel
theorem dX4_faultOfSwitch_13 : decode cX4_faultOfSwitch 13 = .ok (.aload_n 0, 1) := by decide +kernel
theorem dX4_faultOfSwitch_14 : decode cX4_faultOfSwitch 14 = .ok (.getfield 31, 3) := by decide +kernel
theorem dX4_faultOfSwitch_17 : decode cX4_faultOfSwitch 17 = .ok (.getfield 90, 3) := by decide +kernel
theorem dX4_faultOfSwitch_20 : decode cX4_faultOfSwitch 20 = .ok (.iload_n 1, 1) := by decide +kernel
theorem dX4_faultOfSwitch_21 : decode cX4_faultOfSwitch 21 = .ok (.baload, 1) := by decide +kernel
theorem dX4_faultOfSwitch_22 : decode cX4_faultOfSwitch 22 = .ok (.iload_n 2, 1) := by decide +kernel
theorem dX4_faultOfSwitch_23 : decode cX4_faultOfSwitch 23 = .ok (.if_icmp .ne 7, 3) := by decide +kernel
theorem dX4_faultOfSwitch_26 : decode cX4_faultOfSwitch 26 = .ok (.iconst 0, 1) := by decide +kernel
theorem dX4_faultOfSwitch_27 : decode cX4_faultOfSwitch 27 = .ok (.goto 4, 3) := by decide +kernel
theorem dX4_faultOfSwitch_30 : decode cX4_faultOfSwitch 30 = .ok (.iconst 3, 1) := by decide +kernel
theorem dX4_faultOfSwitch_31 : decode cX4_faultOfSwitch 31 = .ok (.ireturn, 1) := by decide +kernel
theorem dX4_faultOfMove_0 : decode cX4_faultOfMove 0 = .ok (.iload_n 1, 1) := by decide +kernel
theorem dX4_faultOfMove_1 : decode cX4_faultOfMove 1 = .ok (.iconst 0, 1) := by decide +kernel
theorem dX4_faultOfMove_2 : decode cX4_faultOfMove 2 = .ok (.bipush 7, 2) := by decide +kernel
theorem dX4_faultOfMove_4 : decode cX4_faultOfMove 4 = .ok (.invokestatic 82, 3) := by decide +kernel
theorem dX4_faultOfMove_7 : decode cX4_faultOfMove 7 = .ok (.ifCond .ne 21, 3) := by decide +kernel
theorem dX4_faultOfMove_10 : decode cX4_faultOfMove 10 = .ok (.iload_n 2, 1) := by decide +kernel
theorem dX4_faultOfMove_11 : decode cX4_faultOfMove 11 = .ok (.iconst 0, 1) := by decide +kernel
theorem dX4_faultOfMove_12 : decode cX4_faultOfMove 12 = .ok (.aload_n 0, 1) := by decide +kernel
theorem dX4_faultOfMove_13 : decode cX4_faultOfMove 13 = .ok (.getfield 42, 3) := by decide +kernel
theorem dX4_faultOfMove_16 : decode cX4_faultOfMove 16 = .ok (.iconst 1, 1) := by decide +kernel
theorem dX4_faultOfMove_17 : decode cX4_faultOfMove 17 = .ok (.isub, 1) := by decide +kernel
theorem dX4_faultOfMove_18 : decode cX4_faultOfMove 18 = .ok (.invokestatic 82, 3) := by decide +kernel
theorem dX4_faultOfMove_21 : decode cX4_faultOfMove 21 = .ok (.ifCond .ne 7, 3) := by decide +kernel
theorem dX4_faultOfMove_24 : decode cX4_faultOfMove 24 = .ok (.iconst 1, 1) := by decide +kernel
theorem dX4_faultOfMove_25 : decode cX4_faultOfMove 25 = .ok (.goto 4, 3) := by decide +kernel
theorem dX4_faultOfMove_28 : decode cX4_faultOfMove 28 = .ok (.iconst 0, 1) := by decide +kernel
theorem dX4_faultOfMove_29 : decode cX4_faultOfMove 29 = .ok (.istore_n 3, 1) := by decide +kernel
theorem dX4_faultOfMove_30 : decode cX4_faultOfMove 30 = .ok (.iload_n 3, 1) := by decide +kernel
theorem dX4_faultOfMove_31 : decode cX4_faultOfMove 31 = .ok (.ifCond .eq 7, 3) := by decide +kernel
theorem dX4_faultOfMove_34 : decode cX4_faultOfMove 34 = .ok (.iconst 0, 1) := by decide +kernel
theorem dX4_faultOfMove_35 : decode cX4_faultOfMove 35 = .ok (.goto 4, 3) := by decide +kernel
theorem dX4_faultOfMove_38 : decode cX4_faultOfMove 38 = .ok (.iconst 1, 1) := by decide +kernel
theorem dX4_faultOfMove_39 : decode cX4_faultOfMove 39 = .ok (.ireturn, 1) := by decide +kernel
theorem dX4_faultOfBid_0 : decode cX4_faultOfBid 0 = .ok (.iload_n 1, 1) := by decide +kernel
theorem dX4_faultOfBid_1 : decode cX4_faultOfBid 1 = .ok (.iconst 0, 1) := by decide +kernel
theorem dX4_faultOfBid_2 : decode cX4_faultOfBid 2 = .ok (.iconst 3, 1) := by decide +kernel
theorem dX4_faultOfBid_3 : decode cX4_faultOfBid 3 = .ok (.invokestatic 82, 3) := by decide +kernel
theorem dX4_faultOfBid_6 : decode cX4_faultOfBid 6 = .ok (.ifCond .ne 14, 3) := by decide +kernel
theorem dX4_faultOfBid_9 : decode cX4_faultOfBid 9 = .ok (.aload_n 0, 1) := by decide +kernel
theorem dX4_faultOfBid_10 : decode cX4_faultOfBid 10 = .ok (.getfield 31, 3) := by decide +kernel
theorem dX4_faultOfBid_13 : decode cX4_faultOfBid 13 = .ok (.iload_n 2, 1) := by decide +kernel
theorem dX4_faultOfBid_14 : decode cX4_faultOfBid 14 = .ok (.invokevirtual 86, 3) := by decide +kernel
theorem dX4_faultOfBid_17 : decode cX4_faultOfBid 17 = .ok (.ifCond .ne 5, 3) := by decide +kernel
theorem dX4_faultOfBid_20 : decode cX4_faultOfBid 20 = .ok (.iconst 1, 1) := by decide +kernel
theorem dX4_faultOfBid_21 : decode cX4_faultOfBid 21 = .ok (.ireturn, 1) := by decide +kernel
theorem dX4_faultOfBid_22 : decode cX4_faultOfBid 22 = .ok (.iload_n 3, 1) := by decide +kernel
theorem dX4_faultOfBid_23 : decode cX4_faultOfBid 23 = .ok (.iconst 0, 1) := by decide +kernel
theorem dX4_faultOfBid_24 : decode cX4_faultOfBid 24 = .ok (.sipush 1000, 3) := by decide +kernel
theorem dX4_faultOfBid_27 : decode cX4_faultOfBid 27 = .ok (.invokestatic 82, 3) := by decide +kernel
theorem dX4_faultOfBid_30 : decode cX4_faultOfBid 30 = .ok (.ifCond .eq 7, 3) := by decide +kernel
theorem dX4_faultOfBid_33 : decode cX4_faultOfBid 33 = .ok (.iconst 2, 1) := by decide +kernel
theorem dX4_faultOfBid_34 : decode cX4_faultOfBid 34 = .ok (.goto 4, 3) := by decide +kernel
theorem dX4_faultOfBid_37 : decode cX4_faultOfBid 37 = .ok (.iconst 0, 1) := by decide +kernel
theorem dX4_faultOfBid_38 : decode cX4_faultOfBid 38 = .ok (.ireturn, 1) := by decide +kernel
theorem dX4_takeDown_0 : decode cX4_takeDown 0 = .ok (.iconst 0, 1) := by decide +kernel
theorem dX4_takeDown_1 : decode cX4_takeDown 1 = .ok (.istore_n 2, 1) := by decide +kernel
theorem dX4_takeDown_2 : decode cX4_takeDown 2 = .ok (.aload_n 0, 1) := by decide +kernel
theorem dX4_takeDown_3 : decode cX4_takeDown 3 = .ok (.getfield 31, 3) := by decide +kernel
theorem dX4_takeDown_6 : decode cX4_takeDown 6 = .ok (.getfield 94, 3) := by decide +kernel
theorem dX4_takeDown_9 : decode cX4_takeDown 9 = .ok (.iload_n 1, 1) := by decide +kernel
theorem dX4_takeDown_10 : decode cX4_takeDown 10 = .ok (.iaload, 1) := by decide +kernel
theorem dX4_takeDown_11 : decode cX4_takeDown 11 = .ok (.istore_n 3, 1) := by decide +kernel
theorem dX4_takeDown_12 : decode cX4_takeDown 12 = .ok (.iload_n 3, 1) := by decide +kernel
theorem dX4_takeDown_13 : decode cX4_takeDown 13 = .ok (.iconst (-1), 1) := by decide +kernel
theorem dX4_takeDown_14 : decode cX4_takeDown 14 = .ok (.if_icmp .eq 70, 3) := by decide +kernel
theorem dX4_takeDown_17 : decode cX4_takeDown 17 = .ok (.aload_n 0, 1) := by decide +kernel
theorem dX4_takeDown_18 : decode cX4_takeDown 18 = .ok (.getfield 15, 3) := by decide +kernel
theorem dX4_takeDown_21 : decode cX4_takeDown 21 = .ok (.ifCond .le 63, 3) := by decide +kernel
theorem dX4_takeDown_24 : decode cX4_takeDown 24 = .ok (.aload_n 0, 1) := by decide +kernel
theorem dX4_takeDown_25 : decode cX4_takeDown 25 = .ok (.getfield 15, 3) := by decide +kernel
theorem dX4_takeDown_28 : decode cX4_takeDown 28 = .ok (.aload_n 0, 1) := by decide +kernel
theorem dX4_takeDown_29 : decode cX4_takeDown 29 = .ok (.getfield 45, 3) := by decide +kernel
theorem dX4_takeDown_32 : decode cX4_takeDown 32 = .ok (.aload_n 0, 1) := by decide +kernel
theorem dX4_takeDown_33 : decode cX4_takeDown 33 = .ok (.getfield 15, 3) := by decide +kernel
theorem dX4_takeDown_36 : decode cX4_takeDown 36 = .ok (.irem, 1) := by decide +kernel
theorem dX4_takeDown_37 : decode cX4_takeDown 37 = .ok (.isub, 1) := by decide +kernel
theorem dX4_takeDown_38 : decode cX4_takeDown 38 = .ok (.istore 4, 2) := by decide +kernel
theorem dX4_takeDown_40 : decode cX4_takeDown 40 = .ok (.aload_n 0, 1) := by decide +kernel
theorem dX4_takeDown_41 : decode cX4_takeDown 41 = .ok (.getfield 31, 3) := by decide +kernel
theorem dX4_takeDown_44 : decode cX4_takeDown 44 = .ok (.getfield 98, 3) := by decide +kernel
theorem dX4_takeDown_47 : decode cX4_takeDown 47 = .ok (.iload_n 1, 1) := by decide +kernel
theorem dX4_takeDown_48 : decode cX4_takeDown 48 = .ok (.iaload, 1) := by decide +kernel
theorem dX4_takeDown_49 : decode cX4_takeDown 49 = .ok (.iload 4, 2) := by decide +kernel
theorem dX4_takeDown_51 : decode cX4_takeDown 51 = .ok (.imul, 1) := by decide +kernel
theorem dX4_takeDown_52 : decode cX4_takeDown 52 = .ok (.aload_n 0, 1) := by decide +kernel
theorem dX4_takeDown_53 : decode cX4_takeDown 53 = .ok (.getfield 15, 3) := by decide +kernel
theorem dX4_takeDown_56 : decode cX4_takeDown 56 = .ok (.idiv, 1) := by decide +kernel
theorem dX4_takeDown_57 : decode cX4_takeDown 57 = .ok (.istore_n 2, 1) := by decide +kernel
theorem dX4_takeDown_58 : decode cX4_takeDown 58 = .ok (.aload_n 0, 1) := by decide +kernel
theorem dX4_takeDown_59 : decode cX4_takeDown 59 = .ok (.getfield 38, 3) := by decide +kernel
theorem dX4_takeDown_62 : decode cX4_takeDown 62 = .ok (.getfield 101, 3) := by decide +kernel
theorem dX4_takeDown_65 : decode cX4_takeDown 65 = .ok (.iload_n 3, 1) := by decide +kernel
theorem dX4_takeDown_66 : decode cX4_takeDown 66 = .ok (.dup2, 1) := by decide +kernel
theorem dX4_takeDown_67 : decode cX4_takeDown 67 = .ok (.iaload, 1) := by decide +kernel
theorem dX4_takeDown_68 : decode cX4_takeDown 68 = .ok (.iload_n 2, 1) := by decide +kernel
theorem dX4_takeDown_69 : decode cX4_takeDown 69 = .ok (.iadd, 1) := by decide +kernel
theorem dX4_takeDown_70 : decode cX4_takeDown 70 = .ok (.iastore, 1) := by decide +kernel
theorem dX4_takeDown_71 : decode cX4_takeDown 71 = .ok (.aload_n 0, 1) := by decide +kernel
theorem dX4_takeDown_72 : decode cX4_takeDown 72 = .ok (.getfield 38, 3) := by decide +kernel
theorem dX4_takeDown_75 : decode cX4_takeDown 75 = .ok (.getfield 104, 3) := by decide +kernel
theorem dX4_takeDown_78 : decode cX4_takeDown 78 = .ok (.iload_n 3, 1) := by decide +kernel
theorem dX4_takeDown_79 : decode cX4_takeDown 79 = .ok (.dup2, 1) := by decide +kernel
theorem dX4_takeDown_80 : decode cX4_takeDown 80 = .ok (.iaload, 1) := by decide +kernel
theorem dX4_takeDown_81 : decode cX4_takeDown 81 = .ok (.iload_n 2, 1) := by decide +kernel
theorem dX4_takeDown_82 : decode cX4_takeDown 82 = .ok (.iadd, 1) := by decide +kernel
theorem dX4_takeDown_83 : decode cX4_takeDown 83 = .ok (.iastore, 1) := by decide +kernel
theorem dX4_takeDown_84 : decode cX4_takeDown 84 = .ok (.aload_n 0, 1) := by decide +kernel
theorem dX4_takeDown_85 : decode cX4_takeDown 85 = .ok (.getfield 31, 3) := by decide +kernel
theorem dX4_takeDown_88 : decode cX4_takeDown 88 = .ok (.getfield 90, 3) := by decide +kernel
theorem dX4_takeDown_91 : decode cX4_takeDown 91 = .ok (.iload_n 1, 1) := by decide +kernel
theorem dX4_takeDown_92 : decode cX4_takeDown 92 = .ok (.iconst 0, 1) := by decide +kernel
theorem dX4_takeDown_93 : decode cX4_takeDown 93 = .ok (.bastore, 1) := by decide +kernel
theorem dX4_takeDown_94 : decode cX4_takeDown 94 = .ok (.aload_n 0, 1) := by decide +kernel
theorem dX4_takeDown_95 : decode cX4_takeDown 95 = .ok (.getfield 31, 3) := by decide +kernel
theorem dX4_takeDown_98 : decode cX4_takeDown 98 = .ok (.getfield 94, 3) := by decide +kernel
theorem dX4_takeDown_101 : decode cX4_takeDown 101 = .ok (.iload_n 1, 1) := by decide +kernel
theorem dX4_takeDown_102 : decode cX4_takeDown 102 = .ok (.iconst (-1), 1) := by decide +kernel
theorem dX4_takeDown_103 : decode cX4_takeDown 103 = .ok (.iastore, 1) := by decide +kernel
theorem dX4_takeDown_104 : decode cX4_takeDown 104 = .ok (.aload_n 0, 1) := by decide +kernel
theorem dX4_takeDown_105 : decode cX4_takeDown 105 = .ok (.getfield 31, 3) := by decide +kernel
theorem dX4_takeDown_108 : decode cX4_takeDown 108 = .ok (.getfield 98, 3) := by decide +kernel
theorem dX4_takeDown_111 : decode cX4_takeDown 111 = .ok (.iload_n 1, 1) := by decide +kernel
theorem dX4_takeDown_112 : decode cX4_takeDown 112 = .ok (.iconst 0, 1) := by decide +kernel
theorem dX4_takeDown_113 : decode cX4_takeDown 113 = .ok (.iastore, 1) := by decide +kernel
theorem dX4_takeDown_114 : decode cX4_takeDown 114 = .ok (.iload_n 2, 1) := by decide +kernel
theorem dX4_takeDown_115 : decode cX4_takeDown 115 = .ok (.ireturn, 1) := by decide +kernel
theorem dX4_isAuctionDue_0 : decode cX4_isAuctionDue 0 = .ok (.aload_n 0, 1) := by decide +kernel
theorem dX4_isAuctionDue_1 : decode cX4_isAuctionDue 1 = .ok (.getfield 15, 3) := by decide +kernel
theorem dX4_isAuctionDue_4 : decode cX4_isAuctionDue 4 = .ok (.ifCond .le 19, 3) := by decide +kernel
theorem dX4_isAuctionDue_7 : decode cX4_isAuctionDue 7 = .ok (.aload_n 0, 1) := by decide +kernel
theorem dX4_isAuctionDue_8 : decode cX4_isAuctionDue 8 = .ok (.getfield 45, 3) := by decide +kernel
theorem dX4_isAuctionDue_11 : decode cX4_isAuctionDue 11 = .ok (.aload_n 0, 1) := by decide +kernel
theorem dX4_isAuctionDue_12 : decode cX4_isAuctionDue 12 = .ok (.getfield 15, 3) := by decide +kernel
theorem dX4_isAuctionDue_15 : decode cX4_isAuctionDue 15 = .ok (.irem, 1) := by decide +kernel
theorem dX4_isAuctionDue_16 : decode cX4_isAuctionDue 16 = .ok (.ifCond .ne 7, 3) := by decide +kernel
theorem dX4_isAuctionDue_19 : decode cX4_isAuctionDue 19 = .ok (.iconst 1, 1) := by decide +kernel
theorem dX4_isAuctionDue_20 : decode cX4_isAuctionDue 20 = .ok (.goto 4, 3) := by decide +kernel
theorem dX4_isAuctionDue_23 : decode cX4_isAuctionDue 23 = .ok (.iconst 0, 1) := by decide +kernel
theorem dX4_isAuctionDue_24 : decode cX4_isAuctionDue 24 = .ok (.ireturn, 1) := by decide +kernel
theorem dX5_init_0 : decode cX5_init 0 = .ok (.aload_n 0, 1) := by decide +kernel
theorem dX5_init_1 : decode cX5_init 1 = .ok (.invokespecial 3, 3) := by decide +kernel
theorem dX5_init_4 : decode cX5_init 4 = .ok (.aload_n 0, 1) := by decide +kernel
theorem dX5_init_5 : decode cX5_init 5 = .ok (.bipush 8, 2) := by decide +kernel
theorem dX5_init_7 : decode cX5_init 7 = .ok (.newarray .int, 2) := by decide +kernel
theorem dX5_init_9 : decode cX5_init 9 = .ok (.putfield 9, 3) := by decide +kernel
theorem dX5_init_12 : decode cX5_init 12 = .ok (.return_, 1) := by decide +kernel
theorem dX5_findGroups_0 : decode cX5_findGroups 0 = .ok (.iconst 1, 1) := by decide +kernel
theorem dX5_findGroups_1 : decode cX5_findGroups 1 = .ok (.istore_n 2, 1) := by decide +kernel
theorem dX5_findGroups_2 : decode cX5_findGroups 2 = .ok (.iconst 0, 1) := by decide +kernel
theorem dX5_findGroups_3 : decode cX5_findGroups 3 = .ok (.istore_n 3, 1) := by decide +kernel
theorem dX5_findGroups_4 : decode cX5_findGroups 4 = .ok (.iload_n 3, 1) := by decide +kernel
theorem dX5_findGroups_5 : decode cX5_findGroups 5 = .ok (.bipush 8, 2) := by decide +kernel
theorem dX5_findGroups_7 : decode cX5_findGroups 7 = .ok (.if_icmp .ge 16, 3) := by decide +kernel
theorem dX5_findGroups_10 : decode cX5_findGroups 10 = .ok (.aload_n 0, 1) := by decide +kernel
theorem dX5_findGroups_11 : decode cX5_findGroups 11 = .ok (.getfield 9, 3) := by decide +kernel
theorem dX5_findGroups_14 : decode cX5_findGroups 14 = .ok (.iload_n 3, 1) := by decide +kernel
theorem dX5_findGroups_15 : decode cX5_findGroups 15 = .ok (.iload_n 3, 1) := by decide +kernel
theorem dX5_findGroups_16 : decode cX5_findGroups 16 = .ok (.iastore, 1) := by decide +kernel
theorem dX5_findGroups_17 : decode cX5_findGroups 17 = .ok (.iinc 3 1, 3) := by decide +kernel
theorem dX5_findGroups_20 : decode cX5_findGroups 20 = .ok (.goto (-16), 3) := by decide +kernel
theorem dX5_findGroups_23 : decode cX5_findGroups 23 = .ok (.iconst 0, 1) := by decide +kernel
theorem dX5_findGroups_24 : decode cX5_findGroups 24 = .ok (.istore_n 3, 1) := by decide +kernel
theorem dX5_findGroups_25 : decode cX5_findGroups 25 = .ok (.iload_n 3, 1) := by decide +kernel
theorem dX5_findGroups_26 : decode cX5_findGroups 26 = .ok (.aload_n 1, 1) := by decide +kernel
theorem dX5_findGroups_27 : decode cX5_findGroups 27 = .ok (.getfield 15, 3) := by decide +kernel
theorem dX5_findGroups_30 : decode cX5_findGroups 30 = .ok (.getfield 21, 3) := by decide +kernel
theorem dX5_findGroups_33 : decode cX5_findGroups 33 = .ok (.if_icmp .ge 69, 3) := by decide +kernel
theorem dX5_findGroups_36 : decode cX5_findGroups 36 = .ok (.aload_n 1, 1) := by decide +kernel
theorem dX5_findGroups_37 : decode cX5_findGroups 37 = .ok (.getfield 15, 3) := by decide +kernel
theorem dX5_findGroups_40 : decode cX5_findGroups 40 = .ok (.iload_n 3, 1) := by decide +kernel
theorem dX5_findGroups_41 : decode cX5_findGroups 41 = .ok (.invokevirtual 27, 3) := by decide +kernel
theorem dX5_findGroups_44 : decode cX5_findGroups 44 = .ok (.ifCond .eq 52, 3) := by decide +kernel
theorem dX5_findGroups_47 : decode cX5_findGroups 47 = .ok (.aload_n 0, 1) := by decide +kernel
theorem dX5_findGroups_48 : decode cX5_findGroups 48 = .ok (.aload_n 0, 1) := by decide +kernel
theorem dX5_findGroups_49 : decode cX5_findGroups 49 = .ok (.getfield 9, 3) := by decide +kernel
theorem dX5_findGroups_52 : decode cX5_findGroups 52 = .ok (.aload_n 1, 1) := by decide +kernel
theorem dX5_findGroups_53 : decode cX5_findGroups 53 = .ok (.getfield 15, 3) := by decide +kernel
theorem dX5_findGroups_56 : decode cX5_findGroups 56 = .ok (.getfield 31, 3) := by decide +kernel
theorem dX5_findGroups_59 : decode cX5_findGroups 59 = .ok (.iload_n 3, 1) := by decide +kernel
theorem dX5_findGroups_60 : decode cX5_findGroups 60 = .ok (.iaload, 1) := by decide +kernel
theorem dX5_findGroups_61 : decode cX5_findGroups 61 = .ok (.iaload, 1) := by decide +kernel
