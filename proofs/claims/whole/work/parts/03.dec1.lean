theorem dX5_findGroups_62 : decode cX5_findGroups 62 = .ok (.aload_n 0, 1) := by decide +kernel
theorem dX5_findGroups_63 : decode cX5_findGroups 63 = .ok (.getfield 9, 3) := by decide +kernel
theorem dX5_findGroups_66 : decode cX5_findGroups 66 = .ok (.aload_n 1, 1) := by decide +kernel
theorem dX5_findGroups_67 : decode cX5_findGroups 67 = .ok (.getfield 15, 3) := by decide +kernel
theorem dX5_findGroups_70 : decode cX5_findGroups 70 = .ok (.getfield 34, 3) := by decide +kernel
theorem dX5_findGroups_73 : decode cX5_findGroups 73 = .ok (.iload_n 3, 1) := by decide +kernel
theorem dX5_findGroups_74 : decode cX5_findGroups 74 = .ok (.iaload, 1) := by decide +kernel
theorem dX5_findGroups_75 : decode cX5_findGroups 75 = .ok (.iaload, 1) := by decide +kernel
theorem dX5_findGroups_76 : decode cX5_findGroups 76 = .ok (.invokevirtual 37, 3) := by decide +kernel
theorem dX5_findGroups_79 : decode cX5_findGroups 79 = .ok (.istore 4, 2) := by decide +kernel
theorem dX5_findGroups_81 : decode cX5_findGroups 81 = .ok (.iload_n 2, 1) := by decide +kernel
theorem dX5_findGroups_82 : decode cX5_findGroups 82 = .ok (.ifCond .eq 12, 3) := by decide +kernel
theorem dX5_findGroups_85 : decode cX5_findGroups 85 = .ok (.iload 4, 2) := by decide +kernel
theorem dX5_findGroups_87 : decode cX5_findGroups 87 = .ok (.ifCond .eq 7, 3) := by decide +kernel
theorem dX5_findGroups_90 : decode cX5_findGroups 90 = .ok (.iconst 1, 1) := by decide +kernel
theorem dX5_findGroups_91 : decode cX5_findGroups 91 = .ok (.goto 4, 3) := by decide +kernel
theorem dX5_findGroups_94 : decode cX5_findGroups 94 = .ok (.iconst 0, 1) := by decide +kernel
theorem dX5_findGroups_95 : decode cX5_findGroups 95 = .ok (.istore_n 2, 1) := by decide +kernel
theorem dX5_findGroups_96 : decode cX5_findGroups 96 = .ok (.iinc 3 1, 3) := by decide +kernel
theorem dX5_findGroups_99 : decode cX5_findGroups 99 = .ok (.goto (-74), 3) := by decide +kernel
theorem dX5_findGroups_102 : decode cX5_findGroups 102 = .ok (.iload_n 2, 1) := by decide +kernel
theorem dX5_findGroups_103 : decode cX5_findGroups 103 = .ok (.ireturn, 1) := by decide +kernel
theorem dX5_join_0 : decode cX5_join 0 = .ok (.iconst 0, 1) := by decide +kernel
theorem dX5_join_1 : decode cX5_join 1 = .ok (.istore_n 3, 1) := by decide +kernel
theorem dX5_join_2 : decode cX5_join 2 = .ok (.iload_n 3, 1) := by decide +kernel
theorem dX5_join_3 : decode cX5_join 3 = .ok (.bipush 8, 2) := by decide +kernel
theorem dX5_join_5 : decode cX5_join 5 = .ok (.if_icmp .ge 26, 3) := by decide +kernel
theorem dX5_join_8 : decode cX5_join 8 = .ok (.aload_n 0, 1) := by decide +kernel
theorem dX5_join_9 : decode cX5_join 9 = .ok (.getfield 9, 3) := by decide +kernel
theorem dX5_join_12 : decode cX5_join 12 = .ok (.iload_n 3, 1) := by decide +kernel
theorem dX5_join_13 : decode cX5_join 13 = .ok (.iaload, 1) := by decide +kernel
theorem dX5_join_14 : decode cX5_join 14 = .ok (.iload_n 2, 1) := by decide +kernel
theorem dX5_join_15 : decode cX5_join 15 = .ok (.if_icmp .ne 10, 3) := by decide +kernel
theorem dX5_join_18 : decode cX5_join 18 = .ok (.aload_n 0, 1) := by decide +kernel
theorem dX5_join_19 : decode cX5_join 19 = .ok (.getfield 9, 3) := by decide +kernel
theorem dX5_join_22 : decode cX5_join 22 = .ok (.iload_n 3, 1) := by decide +kernel
theorem dX5_join_23 : decode cX5_join 23 = .ok (.iload_n 1, 1) := by decide +kernel
theorem dX5_join_24 : decode cX5_join 24 = .ok (.iastore, 1) := by decide +kernel
theorem dX5_join_25 : decode cX5_join 25 = .ok (.iinc 3 1, 3) := by decide +kernel
theorem dX5_join_28 : decode cX5_join 28 = .ok (.goto (-26), 3) := by decide +kernel
theorem dX5_join_31 : decode cX5_join 31 = .ok (.iload_n 1, 1) := by decide +kernel
theorem dX5_join_32 : decode cX5_join 32 = .ok (.iload_n 2, 1) := by decide +kernel
theorem dX5_join_33 : decode cX5_join 33 = .ok (.if_icmp .eq 7, 3) := by decide +kernel
theorem dX5_join_36 : decode cX5_join 36 = .ok (.iconst 1, 1) := by decide +kernel
theorem dX5_join_37 : decode cX5_join 37 = .ok (.goto 4, 3) := by decide +kernel
theorem dX5_join_40 : decode cX5_join 40 = .ok (.iconst 0, 1) := by decide +kernel
theorem dX5_join_41 : decode cX5_join 41 = .ok (.ireturn, 1) := by decide +kernel
theorem dX5_areJoined_0 : decode cX5_areJoined 0 = .ok (.aload_n 0, 1) := by decide +kernel
theorem dX5_areJoined_1 : decode cX5_areJoined 1 = .ok (.getfield 9, 3) := by decide +kernel
theorem dX5_areJoined_4 : decode cX5_areJoined 4 = .ok (.iload_n 1, 1) := by decide +kernel
theorem dX5_areJoined_5 : decode cX5_areJoined 5 = .ok (.iaload, 1) := by decide +kernel
theorem dX5_areJoined_6 : decode cX5_areJoined 6 = .ok (.aload_n 0, 1) := by decide +kernel
theorem dX5_areJoined_7 : decode cX5_areJoined 7 = .ok (.getfield 9, 3) := by decide +kernel
theorem dX5_areJoined_10 : decode cX5_areJoined 10 = .ok (.iload_n 2, 1) := by decide +kernel
theorem dX5_areJoined_11 : decode cX5_areJoined 11 = .ok (.iaload, 1) := by decide +kernel
theorem dX5_areJoined_12 : decode cX5_areJoined 12 = .ok (.if_icmp .ne 7, 3) := by decide +kernel
theorem dX5_areJoined_15 : decode cX5_areJoined 15 = .ok (.iconst 1, 1) := by decide +kernel
theorem dX5_areJoined_16 : decode cX5_areJoined 16 = .ok (.goto 4, 3) := by decide +kernel
theorem dX5_areJoined_19 : decode cX5_areJoined 19 = .ok (.iconst 0, 1) := by decide +kernel
theorem dX5_areJoined_20 : decode cX5_areJoined 20 = .ok (.ireturn, 1) := by decide +kernel
theorem dX5_countPairs_0 : decode cX5_countPairs 0 = .ok (.iconst 0, 1) := by decide +kernel
theorem dX5_countPairs_1 : decode cX5_countPairs 1 = .ok (.istore_n 2, 1) := by decide +kernel
theorem dX5_countPairs_2 : decode cX5_countPairs 2 = .ok (.iconst 0, 1) := by decide +kernel
theorem dX5_countPairs_3 : decode cX5_countPairs 3 = .ok (.istore_n 3, 1) := by decide +kernel
theorem dX5_countPairs_4 : decode cX5_countPairs 4 = .ok (.iload_n 3, 1) := by decide +kernel
theorem dX5_countPairs_5 : decode cX5_countPairs 5 = .ok (.iload_n 1, 1) := by decide +kernel
theorem dX5_countPairs_6 : decode cX5_countPairs 6 = .ok (.if_icmp .ge 37, 3) := by decide +kernel
theorem dX5_countPairs_9 : decode cX5_countPairs 9 = .ok (.iconst 0, 1) := by decide +kernel
theorem dX5_countPairs_10 : decode cX5_countPairs 10 = .ok (.istore 4, 2) := by decide +kernel
theorem dX5_countPairs_12 : decode cX5_countPairs 12 = .ok (.iload 4, 2) := by decide +kernel
theorem dX5_countPairs_14 : decode cX5_countPairs 14 = .ok (.iload_n 3, 1) := by decide +kernel
theorem dX5_countPairs_15 : decode cX5_countPairs 15 = .ok (.if_icmp .ge 22, 3) := by decide +kernel
theorem dX5_countPairs_18 : decode cX5_countPairs 18 = .ok (.aload_n 0, 1) := by decide +kernel
theorem dX5_countPairs_19 : decode cX5_countPairs 19 = .ok (.iload 4, 2) := by decide +kernel
theorem dX5_countPairs_21 : decode cX5_countPairs 21 = .ok (.iload_n 3, 1) := by decide +kernel
theorem dX5_countPairs_22 : decode cX5_countPairs 22 = .ok (.invokevirtual 41, 3) := by decide +kernel
theorem dX5_countPairs_25 : decode cX5_countPairs 25 = .ok (.ifCond .eq 6, 3) := by decide +kernel
theorem dX5_countPairs_28 : decode cX5_countPairs 28 = .ok (.iinc 2 1, 3) := by decide +kernel
theorem dX5_countPairs_31 : decode cX5_countPairs 31 = .ok (.iinc 4 1, 3) := by decide +kernel
theorem dX5_countPairs_34 : decode cX5_countPairs 34 = .ok (.goto (-22), 3) := by decide +kernel
theorem dX5_countPairs_37 : decode cX5_countPairs 37 = .ok (.iinc 3 1, 3) := by decide +kernel
theorem dX5_countPairs_40 : decode cX5_countPairs 40 = .ok (.goto (-36), 3) := by decide +kernel
theorem dX5_countPairs_43 : decode cX5_countPairs 43 = .ok (.iload_n 2, 1) := by decide +kernel
theorem dX5_countPairs_44 : decode cX5_countPairs 44 = .ok (.ireturn, 1) := by decide +kernel
theorem dX6_init_0 : decode cX6_init 0 = .ok (.aload_n 0, 1) := by decide +kernel
theorem dX6_init_1 : decode cX6_init 1 = .ok (.invokespecial 3, 3) := by decide +kernel
theorem dX6_init_4 : decode cX6_init 4 = .ok (.aload_n 0, 1) := by decide +kernel
theorem dX6_init_5 : decode cX6_init 5 = .ok (.bipush 8, 2) := by decide +kernel
theorem dX6_init_7 : decode cX6_init 7 = .ok (.newarray .boolean, 2) := by decide +kernel
theorem dX6_init_9 : decode cX6_init 9 = .ok (.putfield 9, 3) := by decide +kernel
theorem dX6_init_12 : decode cX6_init 12 = .ok (.return_, 1) := by decide +kernel
theorem dX6_renew_0 : decode cX6_renew 0 = .ok (.aload_n 1, 1) := by decide +kernel
theorem dX6_renew_1 : decode cX6_renew 1 = .ok (.getfield 15, 3) := by decide +kernel
theorem dX6_renew_4 : decode cX6_renew 4 = .ok (.istore_n 2, 1) := by decide +kernel
theorem dX6_renew_5 : decode cX6_renew 5 = .ok (.iconst 0, 1) := by decide +kernel
theorem dX6_renew_6 : decode cX6_renew 6 = .ok (.istore_n 3, 1) := by decide +kernel
theorem dX6_renew_7 : decode cX6_renew 7 = .ok (.iload_n 3, 1) := by decide +kernel
theorem dX6_renew_8 : decode cX6_renew 8 = .ok (.bipush 8, 2) := by decide +kernel
theorem dX6_renew_10 : decode cX6_renew 10 = .ok (.if_icmp .ge 16, 3) := by decide +kernel
theorem dX6_renew_13 : decode cX6_renew 13 = .ok (.aload_n 0, 1) := by decide +kernel
theorem dX6_renew_14 : decode cX6_renew 14 = .ok (.getfield 9, 3) := by decide +kernel
theorem dX6_renew_17 : decode cX6_renew 17 = .ok (.iload_n 3, 1) := by decide +kernel
theorem dX6_renew_18 : decode cX6_renew 18 = .ok (.iconst 0, 1) := by decide +kernel
theorem dX6_renew_19 : decode cX6_renew 19 = .ok (.bastore, 1) := by decide +kernel
theorem dX6_renew_20 : decode cX6_renew 20 = .ok (.iinc 3 1, 3) := by decide +kernel
theorem dX6_renew_23 : decode cX6_renew 23 = .ok (.goto (-16), 3) := by decide +kernel
theorem dX6_renew_26 : decode cX6_renew 26 = .ok (.iconst 0, 1) := by decide +kernel
theorem dX6_renew_27 : decode cX6_renew 27 = .ok (.istore_n 3, 1) := by decide +kernel
theorem dX6_renew_28 : decode cX6_renew 28 = .ok (.iload_n 3, 1) := by decide +kernel
theorem dX6_renew_29 : decode cX6_renew 29 = .ok (.aload_n 1, 1) := by decide +kernel
theorem dX6_renew_30 : decode cX6_renew 30 = .ok (.getfield 21, 3) := by decide +kernel
theorem dX6_renew_33 : decode cX6_renew 33 = .ok (.getfield 25, 3) := by decide +kernel
theorem dX6_renew_36 : decode cX6_renew 36 = .ok (.if_icmp .ge 51, 3) := by decide +kernel
theorem dX6_renew_39 : decode cX6_renew 39 = .ok (.aload_n 1, 1) := by decide +kernel
theorem dX6_renew_40 : decode cX6_renew 40 = .ok (.getfield 21, 3) := by decide +kernel
theorem dX6_renew_43 : decode cX6_renew 43 = .ok (.getfield 30, 3) := by decide +kernel
theorem dX6_renew_46 : decode cX6_renew 46 = .ok (.iload_n 3, 1) := by decide +kernel
theorem dX6_renew_47 : decode cX6_renew 47 = .ok (.iaload, 1) := by decide +kernel
theorem dX6_renew_48 : decode cX6_renew 48 = .ok (.istore 4, 2) := by decide +kernel
theorem dX6_renew_50 : decode cX6_renew 50 = .ok (.aload_n 1, 1) := by decide +kernel
theorem dX6_renew_51 : decode cX6_renew 51 = .ok (.getfield 21, 3) := by decide +kernel
theorem dX6_renew_54 : decode cX6_renew 54 = .ok (.getfield 34, 3) := by decide +kernel
theorem dX6_renew_57 : decode cX6_renew 57 = .ok (.iload_n 3, 1) := by decide +kernel
theorem dX6_renew_58 : decode cX6_renew 58 = .ok (.iaload, 1) := by decide +kernel
theorem dX6_renew_59 : decode cX6_renew 59 = .ok (.istore 5, 2) := by decide +kernel
theorem dX6_renew_61 : decode cX6_renew 61 = .ok (.aload_n 0, 1) := by decide +kernel
theorem dX6_renew_62 : decode cX6_renew 62 = .ok (.aload_n 1, 1) := by decide +kernel
theorem dX6_renew_63 : decode cX6_renew 63 = .ok (.iload_n 3, 1) := by decide +kernel
theorem dX6_renew_64 : decode cX6_renew 64 = .ok (.iload 4, 2) := by decide +kernel
theorem dX6_renew_66 : decode cX6_renew 66 = .ok (.iload 5, 2) := by decide +kernel
theorem dX6_renew_68 : decode cX6_renew 68 = .ok (.invokevirtual 37, 3) := by decide +kernel
theorem dX6_renew_71 : decode cX6_renew 71 = .ok (.aload_n 0, 1) := by decide +kernel
theorem dX6_renew_72 : decode cX6_renew 72 = .ok (.aload_n 1, 1) := by decide +kernel
theorem dX6_renew_73 : decode cX6_renew 73 = .ok (.iload_n 3, 1) := by decide +kernel
theorem dX6_renew_74 : decode cX6_renew 74 = .ok (.iload 5, 2) := by decide +kernel
theorem dX6_renew_76 : decode cX6_renew 76 = .ok (.iload 4, 2) := by decide +kernel
theorem dX6_renew_78 : decode cX6_renew 78 = .ok (.invokevirtual 37, 3) := by decide +kernel
theorem dX6_renew_81 : decode cX6_renew 81 = .ok (.iinc 3 1, 3) := by decide +kernel
theorem dX6_renew_84 : decode cX6_renew 84 = .ok (.goto (-56), 3) := by decide +kernel
theorem dX6_renew_87 : decode cX6_renew 87 = .ok (.aload_n 1, 1) := by decide +kernel
theorem dX6_renew_88 : decode cX6_renew 88 = .ok (.getfield 15, 3) := by decide +kernel
theorem dX6_renew_91 : decode cX6_renew 91 = .ok (.iload_n 2, 1) := by decide +kernel
theorem dX6_renew_92 : decode cX6_renew 92 = .ok (.if_icmp .eq 7, 3) := by decide +kernel
theorem dX6_renew_95 : decode cX6_renew 95 = .ok (.iconst 1, 1) := by decide +kernel
theorem dX6_renew_96 : decode cX6_renew 96 = .ok (.goto 4, 3) := by decide +kernel
theorem dX6_renew_99 : decode cX6_renew 99 = .ok (.iconst 0, 1) := by decide +kernel
theorem dX6_renew_100 : decode cX6_renew 100 = .ok (.ireturn, 1) := by decide +kernel
theorem dX6_renewPort_0 : decode cX6_renewPort 0 = .ok (.aload_n 1, 1) := by decide +kernel
theorem dX6_renewPort_1 : decode cX6_renewPort 1 = .ok (.getfield 21, 3) := by decide +kernel
theorem dX6_renewPort_4 : decode cX6_renewPort 4 = .ok (.astore 5, 2) := by decide +kernel
theorem dX6_renewPort_6 : decode cX6_renewPort 6 = .ok (.iload_n 3, 1) := by decide +kernel
theorem dX6_renewPort_7 : decode cX6_renewPort 7 = .ok (.iload 4, 2) := by decide +kernel
theorem dX6_renewPort_9 : decode cX6_renewPort 9 = .ok (.if_icmp .ge 9, 3) := by decide +kernel
theorem dX6_renewPort_12 : decode cX6_renewPort 12 = .ok (.iconst 2, 1) := by decide +kernel
theorem dX6_renewPort_13 : decode cX6_renewPort 13 = .ok (.iload_n 2, 1) := by decide +kernel
theorem dX6_renewPort_14 : decode cX6_renewPort 14 = .ok (.imul, 1) := by decide +kernel
theorem dX6_renewPort_15 : decode cX6_renewPort 15 = .ok (.goto 8, 3) := by decide +kernel
theorem dX6_renewPort_18 : decode cX6_renewPort 18 = .ok (.iconst 2, 1) := by decide +kernel
theorem dX6_renewPort_19 : decode cX6_renewPort 19 = .ok (.iload_n 2, 1) := by decide +kernel
theorem dX6_renewPort_20 : decode cX6_renewPort 20 = .ok (.imul, 1) := by decide +kernel
theorem dX6_renewPort_21 : decode cX6_renewPort 21 = .ok (.iconst 1, 1) := by decide +kernel
theorem dX6_renewPort_22 : decode cX6_renewPort 22 = .ok (.iadd, 1) := by decide +kernel
theorem dX6_renewPort_23 : decode cX6_renewPort 23 = .ok (.istore 6, 2) := by decide +kernel
theorem dX6_renewPort_25 : decode cX6_renewPort 25 = .ok (.aload 5, 2) := by decide +kernel
theorem dX6_renewPort_27 : decode cX6_renewPort 27 = .ok (.getfield 41, 3) := by decide +kernel
theorem dX6_renewPort_30 : decode cX6_renewPort 30 = .ok (.iload 6, 2) := by decide +kernel
theorem dX6_renewPort_32 : decode cX6_renewPort 32 = .ok (.iaload, 1) := by decide +kernel
theorem dX6_renewPort_33 : decode cX6_renewPort 33 = .ok (.iconst 3, 1) := by decide +kernel
theorem dX6_renewPort_34 : decode cX6_renewPort 34 = .ok (.if_icmp .ne 7, 3) := by decide +kernel
theorem dX6_renewPort_37 : decode cX6_renewPort 37 = .ok (.iconst 1, 1) := by decide +kernel
theorem dX6_renewPort_38 : decode cX6_renewPort 38 = .ok (.goto 4, 3) := by decide +kernel
theorem dX6_renewPort_41 : decode cX6_renewPort 41 = .ok (.iconst 0, 1) := by decide +kernel
theorem dX6_renewPort_42 : decode cX6_renewPort 42 = .ok (.istore 7, 2) := by decide +kernel
theorem dX6_renewPort_44 : decode cX6_renewPort 44 = .ok (.aload 5, 2) := by decide +kernel
theorem dX6_renewPort_46 : decode cX6_renewPort 46 = .ok (.getfield 44, 3) := by decide +kernel
theorem dX6_renewPort_49 : decode cX6_renewPort 49 = .ok (.iload 6, 2) := by decide +kernel
theorem dX6_renewPort_51 : decode cX6_renewPort 51 = .ok (.aload_n 1, 1) := by decide +kernel
theorem dX6_renewPort_52 : decode cX6_renewPort 52 = .ok (.getfield 47, 3) := by decide +kernel
theorem dX6_renewPort_55 : decode cX6_renewPort 55 = .ok (.aload 5, 2) := by decide +kernel
theorem dX6_renewPort_57 : decode cX6_renewPort 57 = .ok (.iload_n 2, 1) := by decide +kernel
theorem dX6_renewPort_58 : decode cX6_renewPort 58 = .ok (.iload_n 3, 1) := by decide +kernel
theorem dX6_renewPort_59 : decode cX6_renewPort 59 = .ok (.iload 4, 2) := by decide +kernel
theorem dX6_renewPort_61 : decode cX6_renewPort 61 = .ok (.invokestatic 51, 3) := by decide +kernel
theorem dX6_renewPort_64 : decode cX6_renewPort 64 = .ok (.iastore, 1) := by decide +kernel
theorem dX6_renewPort_65 : decode cX6_renewPort 65 = .ok (.aload 5, 2) := by decide +kernel
theorem dX6_renewPort_67 : decode cX6_renewPort 67 = .ok (.iload 6, 2) := by decide +kernel
theorem dX6_renewPort_69 : decode cX6_renewPort 69 = .ok (.aload_n 1, 1) := by decide +kernel
theorem dX6_renewPort_70 : decode cX6_renewPort 70 = .ok (.getfield 55, 3) := by decide +kernel
theorem dX6_renewPort_73 : decode cX6_renewPort 73 = .ok (.invokestatic 58, 3) := by decide +kernel
theorem dX6_renewPort_76 : decode cX6_renewPort 76 = .ok (.iload 7, 2) := by decide +kernel
theorem dX6_renewPort_78 : decode cX6_renewPort 78 = .ok (.aload 5, 2) := by decide +kernel
theorem dX6_renewPort_80 : decode cX6_renewPort 80 = .ok (.getfield 41, 3) := by decide +kernel
theorem dX6_renewPort_83 : decode cX6_renewPort 83 = .ok (.iload 6, 2) := by decide +kernel
theorem dX6_renewPort_85 : decode cX6_renewPort 85 = .ok (.iaload, 1) := by decide +kernel
theorem dX6_renewPort_86 : decode cX6_renewPort 86 = .ok (.iconst 3, 1) := by decide +kernel
theorem dX6_renewPort_87 : decode cX6_renewPort 87 = .ok (.if_icmp .ne 7, 3) := by decide +kernel
theorem dX6_renewPort_90 : decode cX6_renewPort 90 = .ok (.iconst 1, 1) := by decide +kernel
theorem dX6_renewPort_91 : decode cX6_renewPort 91 = .ok (.goto 4, 3) := by decide +kernel
theorem dX6_renewPort_94 : decode cX6_renewPort 94 = .ok (.iconst 0, 1) := by decide +kernel
theorem dX6_renewPort_95 : decode cX6_renewPort 95 = .ok (.if_icmp .eq 20, 3) := by decide +kernel
theorem dX6_renewPort_98 : decode cX6_renewPort 98 = .ok (.aload_n 1, 1) := by decide +kernel
theorem dX6_renewPort_99 : decode cX6_renewPort 99 = .ok (.dup, 1) := by decide +kernel
theorem dX6_renewPort_100 : decode cX6_renewPort 100 = .ok (.getfield 15, 3) := by decide +kernel
theorem dX6_renewPort_103 : decode cX6_renewPort 103 = .ok (.iconst 1, 1) := by decide +kernel
theorem dX6_renewPort_104 : decode cX6_renewPort 104 = .ok (.iadd, 1) := by decide +kernel
theorem dX6_renewPort_105 : decode cX6_renewPort 105 = .ok (.putfield 15, 3) := by decide +kernel
theorem dX6_renewPort_108 : decode cX6_renewPort 108 = .ok (.aload_n 0, 1) := by decide +kernel
theorem dX6_renewPort_109 : decode cX6_renewPort 109 = .ok (.getfield 9, 3) := by decide +kernel
theorem dX6_renewPort_112 : decode cX6_renewPort 112 = .ok (.iload_n 3, 1) := by decide +kernel
theorem dX6_renewPort_113 : decode cX6_renewPort 113 = .ok (.iconst 1, 1) := by decide +kernel
theorem dX6_renewPort_114 : decode cX6_renewPort 114 = .ok (.bastore, 1) := by decide +kernel
theorem dX6_renewPort_115 : decode cX6_renewPort 115 = .ok (.return_, 1) := by decide +kernel
theorem dX6_roleOf_0 : decode cX6_roleOf 0 = .ok (.aload_n 1, 1) := by decide +kernel
theorem dX6_roleOf_1 : decode cX6_roleOf 1 = .ok (.getfield 62, 3) := by decide +kernel
theorem dX6_roleOf_4 : decode cX6_roleOf 4 = .ok (.iload_n 2, 1) := by decide +kernel
theorem dX6_roleOf_5 : decode cX6_roleOf 5 = .ok (.baload, 1) := by decide +kernel
theorem dX6_roleOf_6 : decode cX6_roleOf 6 = .ok (.ifCond .ne 5, 3) := by decide +kernel
theorem dX6_roleOf_9 : decode cX6_roleOf 9 = .ok (.iconst 2, 1) := by decide +kernel
theorem dX6_roleOf_10 : decode cX6_roleOf 10 = .ok (.ireturn, 1) := by decide +kernel
theorem dX6_roleOf_11 : decode cX6_roleOf 11 = .ok (.aload_n 0, 1) := by decide +kernel
theorem dX6_roleOf_12 : decode cX6_roleOf 12 = .ok (.getfield 65, 3) := by decide +kernel
theorem dX6_roleOf_15 : decode cX6_roleOf 15 = .ok (.iload_n 3, 1) := by decide +kernel
theorem dX6_roleOf_16 : decode cX6_roleOf 16 = .ok (.iaload, 1) := by decide +kernel
theorem dX6_roleOf_17 : decode cX6_roleOf 17 = .ok (.iload_n 2, 1) := by decide +kernel
theorem dX6_roleOf_18 : decode cX6_roleOf 18 = .ok (.if_icmp .ne 5, 3) := by decide +kernel
theorem dX6_roleOf_21 : decode cX6_roleOf 21 = .ok (.iconst 0, 1) := by decide +kernel
theorem dX6_roleOf_22 : decode cX6_roleOf 22 = .ok (.ireturn, 1) := by decide +kernel
theorem dX6_roleOf_23 : decode cX6_roleOf 23 = .ok (.aload_n 0, 1) := by decide +kernel
theorem dX6_roleOf_24 : decode cX6_roleOf 24 = .ok (.iload_n 3, 1) := by decide +kernel
theorem dX6_roleOf_25 : decode cX6_roleOf 25 = .ok (.iload 4, 2) := by decide +kernel
theorem dX6_roleOf_27 : decode cX6_roleOf 27 = .ok (.invokestatic 70, 3) := by decide +kernel
theorem dX6_roleOf_30 : decode cX6_roleOf 30 = .ok (.ifCond .eq 7, 3) := by decide +kernel
theorem dX6_roleOf_33 : decode cX6_roleOf 33 = .ok (.iconst 1, 1) := by decide +kernel
theorem dX6_roleOf_34 : decode cX6_roleOf 34 = .ok (.goto 4, 3) := by decide +kernel
theorem dX6_roleOf_37 : decode cX6_roleOf 37 = .ok (.iconst 2, 1) := by decide +kernel
theorem dX6_roleOf_38 : decode cX6_roleOf 38 = .ok (.ireturn, 1) := by decide +kernel
theorem dX6_comesBefore_0 : decode cX6_comesBefore 0 = .ok (.aload_n 0, 1) := by decide +kernel
theorem dX6_comesBefore_1 : decode cX6_comesBefore 1 = .ok (.getfield 74, 3) := by decide +kernel
theorem dX6_comesBefore_4 : decode cX6_comesBefore 4 = .ok (.iload_n 1, 1) := by decide +kernel
theorem dX6_comesBefore_5 : decode cX6_comesBefore 5 = .ok (.iaload, 1) := by decide +kernel
theorem dX6_comesBefore_6 : decode cX6_comesBefore 6 = .ok (.aload_n 0, 1) := by decide +kernel
theorem dX6_comesBefore_7 : decode cX6_comesBefore 7 = .ok (.getfield 74, 3) := by decide +kernel
theorem dX6_comesBefore_10 : decode cX6_comesBefore 10 = .ok (.iload_n 2, 1) := by decide +kernel
theorem dX6_comesBefore_11 : decode cX6_comesBefore 11 = .ok (.iaload, 1) := by decide +kernel
theorem dX6_comesBefore_12 : decode cX6_comesBefore 12 = .ok (.if_icmp .eq 24, 3) := by decide +kernel
theorem dX6_comesBefore_15 : decode cX6_comesBefore 15 = .ok (.aload_n 0, 1) := by decide +kernel
theorem dX6_comesBefore_16 : decode cX6_comesBefore 16 = .ok (.getfield 74, 3) := by decide +kernel
theorem dX6_comesBefore_19 : decode cX6_comesBefore 19 = .ok (.iload_n 1, 1) := by decide +kernel
theorem dX6_comesBefore_20 : decode cX6_comesBefore 20 = .ok (.iaload, 1) := by decide +kernel
theorem dX6_comesBefore_21 : decode cX6_comesBefore 21 = .ok (.aload_n 0, 1) := by decide +kernel
theorem dX6_comesBefore_22 : decode cX6_comesBefore 22 = .ok (.getfield 74, 3) := by decide +kernel
theorem dX6_comesBefore_25 : decode cX6_comesBefore 25 = .ok (.iload_n 2, 1) := by decide +kernel
theorem dX6_comesBefore_26 : decode cX6_comesBefore 26 = .ok (.iaload, 1) := by decide +kernel
theorem dX6_comesBefore_27 : decode cX6_comesBefore 27 = .ok (.if_icmp .ge 7, 3) := by decide +kernel
theorem dX6_comesBefore_30 : decode cX6_comesBefore 30 = .ok (.iconst 1, 1) := by decide +kernel
theorem dX6_comesBefore_31 : decode cX6_comesBefore 31 = .ok (.goto 4, 3) := by decide +kernel
theorem dX6_comesBefore_34 : decode cX6_comesBefore 34 = .ok (.iconst 0, 1) := by decide +kernel
theorem dX6_comesBefore_35 : decode cX6_comesBefore 35 = .ok (.ireturn, 1) := by decide +kernel
theorem dX6_comesBefore_36 : decode cX6_comesBefore 36 = .ok (.aload_n 0, 1) := by decide +kernel
theorem dX6_comesBefore_37 : decode cX6_comesBefore 37 = .ok (.getfield 77, 3) := by decide +kernel
theorem dX6_comesBefore_40 : decode cX6_comesBefore 40 = .ok (.iload_n 1, 1) := by decide +kernel
theorem dX6_comesBefore_41 : decode cX6_comesBefore 41 = .ok (.iaload, 1) := by decide +kernel
theorem dX6_comesBefore_42 : decode cX6_comesBefore 42 = .ok (.aload_n 0, 1) := by decide +kernel
theorem dX6_comesBefore_43 : decode cX6_comesBefore 43 = .ok (.getfield 77, 3) := by decide +kernel
theorem dX6_comesBefore_46 : decode cX6_comesBefore 46 = .ok (.iload_n 2, 1) := by decide +kernel
theorem dX6_comesBefore_47 : decode cX6_comesBefore 47 = .ok (.iaload, 1) := by decide +kernel
theorem dX6_comesBefore_48 : decode cX6_comesBefore 48 = .ok (.if_icmp .eq 24, 3) := by decide +kernel
theorem dX6_comesBefore_51 : decode cX6_comesBefore 51 = .ok (.aload_n 0, 1) := by decide +kernel
theorem dX6_comesBefore_52 : decode cX6_comesBefore 52 = .ok (.getfield 77, 3) := by decide +kernel
theorem dX6_comesBefore_55 : decode cX6_comesBefore 55 = .ok (.iload_n 1, 1) := by decide +kernel
theorem dX6_comesBefore_56 : decode cX6_comesBefore 56 = .ok (.iaload, 1) := by decide +kernel
theorem dX6_comesBefore_57 : decode cX6_comesBefore 57 = .ok (.aload_n 0, 1) := by decide +kernel
theorem dX6_comesBefore_58 : decode cX6_comesBefore 58 = .ok (.getfield 77, 3) := by decide +kernel
theorem dX6_comesBefore_61 : decode cX6_comesBefore 61 = .ok (.iload_n 2, 1) := by decide +kernel
theorem dX6_comesBefore_62 : decode cX6_comesBefore 62 = .ok (.iaload, 1) := by decide +kernel
theorem dX6_comesBefore_63 : decode cX6_comesBefore 63 = .ok (.if_icmp .ge 7, 3) := by decide +kernel
theorem dX6_comesBefore_66 : decode cX6_comesBefore 66 = .ok (.iconst 1, 1) := by decide +kernel
theorem dX6_comesBefore_67 : decode cX6_comesBefore 67 = .ok (.goto 4, 3) := by decide +kernel
theorem dX6_comesBefore_70 : decode cX6_comesBefore 70 = .ok (.iconst 0, 1) := by decide +kernel
theorem dX6_comesBefore_71 : decode cX6_comesBefore 71 = .ok (.ireturn, 1) := by decide +kernel
theorem dX6_comesBefore_72 : decode cX6_comesBefore 72 = .ok (.aload_n 0, 1) := by decide +kernel
theorem dX6_comesBefore_73 : decode cX6_comesBefore 73 = .ok (.iload_n 1, 1) := by decide +kernel
theorem dX6_comesBefore_74 : decode cX6_comesBefore 74 = .ok (.invokevirtual 80, 3) := by decide +kernel
theorem dX6_comesBefore_77 : decode cX6_comesBefore 77 = .ok (.aload_n 0, 1) := by decide +kernel
theorem dX6_comesBefore_78 : decode cX6_comesBefore 78 = .ok (.iload_n 2, 1) := by decide +kernel
theorem dX6_comesBefore_79 : decode cX6_comesBefore 79 = .ok (.invokevirtual 80, 3) := by decide +kernel
theorem dX6_comesBefore_82 : decode cX6_comesBefore 82 = .ok (.if_icmp .ge 7, 3) := by decide +kernel
theorem dX6_comesBefore_85 : decode cX6_comesBefore 85 = .ok (.iconst 1, 1) := by decide +kernel
theorem dX6_comesBefore_86 : decode cX6_comesBefore 86 = .ok (.goto 4, 3) := by decide +kernel
theorem dX6_comesBefore_89 : decode cX6_comesBefore 89 = .ok (.iconst 0, 1) := by decide +kernel
theorem dX6_comesBefore_90 : decode cX6_comesBefore 90 = .ok (.ireturn, 1) := by decide +kernel
theorem dX6_moveState_0 : decode cX6_moveState 0 = .ok (.aload_n 0, 1) := by decide +kernel
theorem dX6_moveState_1 : decode cX6_moveState 1 = .ok (.getfield 44, 3) := by decide +kernel
theorem dX6_moveState_4 : decode cX6_moveState 4 = .ok (.iload_n 1, 1) := by decide +kernel
theorem dX6_moveState_5 : decode cX6_moveState 5 = .ok (.iaload, 1) := by decide +kernel
theorem dX6_moveState_6 : decode cX6_moveState 6 = .ok (.iconst 2, 1) := by decide +kernel
theorem dX6_moveState_7 : decode cX6_moveState 7 = .ok (.if_icmp .ne 18, 3) := by decide +kernel
theorem dX6_moveState_10 : decode cX6_moveState 10 = .ok (.aload_n 0, 1) := by decide +kernel
theorem dX6_moveState_11 : decode cX6_moveState 11 = .ok (.getfield 41, 3) := by decide +kernel
theorem dX6_moveState_14 : decode cX6_moveState 14 = .ok (.iload_n 1, 1) := by decide +kernel
theorem dX6_moveState_15 : decode cX6_moveState 15 = .ok (.iconst 0, 1) := by decide +kernel
theorem dX6_moveState_16 : decode cX6_moveState 16 = .ok (.iastore, 1) := by decide +kernel
theorem dX6_moveState_17 : decode cX6_moveState 17 = .ok (.aload_n 0, 1) := by decide +kernel
theorem dX6_moveState_18 : decode cX6_moveState 18 = .ok (.getfield 84, 3) := by decide +kernel
theorem dX6_moveState_21 : decode cX6_moveState 21 = .ok (.iload_n 1, 1) := by decide +kernel
theorem dX6_moveState_22 : decode cX6_moveState 22 = .ok (.iconst 0, 1) := by decide +kernel
theorem dX6_moveState_23 : decode cX6_moveState 23 = .ok (.iastore, 1) := by decide +kernel
theorem dX6_moveState_24 : decode cX6_moveState 24 = .ok (.return_, 1) := by decide +kernel
theorem dX6_moveState_25 : decode cX6_moveState 25 = .ok (.aload_n 0, 1) := by decide +kernel
theorem dX6_moveState_26 : decode cX6_moveState 26 = .ok (.getfield 41, 3) := by decide +kernel
theorem dX6_moveState_29 : decode cX6_moveState 29 = .ok (.iload_n 1, 1) := by decide +kernel
theorem dX6_moveState_30 : decode cX6_moveState 30 = .ok (.iaload, 1) := by decide +kernel
theorem dX6_moveState_31 : decode cX6_moveState 31 = .ok (.ifCond .ne 18, 3) := by decide +kernel
theorem dX6_moveState_34 : decode cX6_moveState 34 = .ok (.aload_n 0, 1) := by decide +kernel
theorem dX6_moveState_35 : decode cX6_moveState 35 = .ok (.getfield 41, 3) := by decide +kernel
theorem dX6_moveState_38 : decode cX6_moveState 38 = .ok (.iload_n 1, 1) := by decide +kernel
theorem dX6_moveState_39 : decode cX6_moveState 39 = .ok (.iconst 1, 1) := by decide +kernel
theorem dX6_moveState_40 : decode cX6_moveState 40 = .ok (.iastore, 1) := by decide +kernel
theorem dX6_moveState_41 : decode cX6_moveState 41 = .ok (.aload_n 0, 1) := by decide +kernel
theorem dX6_moveState_42 : decode cX6_moveState 42 = .ok (.getfield 84, 3) := by decide +kernel
theorem dX6_moveState_45 : decode cX6_moveState 45 = .ok (.iload_n 1, 1) := by decide +kernel
theorem dX6_moveState_46 : decode cX6_moveState 46 = .ok (.iload_n 2, 1) := by decide +kernel
theorem dX6_moveState_47 : decode cX6_moveState 47 = .ok (.iastore, 1) := by decide +kernel
theorem dX6_moveState_48 : decode cX6_moveState 48 = .ok (.return_, 1) := by decide +kernel
theorem dX6_moveState_49 : decode cX6_moveState 49 = .ok (.aload_n 0, 1) := by decide +kernel
theorem dX6_moveState_50 : decode cX6_moveState 50 = .ok (.getfield 41, 3) := by decide +kernel
theorem dX6_moveState_53 : decode cX6_moveState 53 = .ok (.iload_n 1, 1) := by decide +kernel
theorem dX6_moveState_54 : decode cX6_moveState 54 = .ok (.iaload, 1) := by decide +kernel
theorem dX6_moveState_55 : decode cX6_moveState 55 = .ok (.iconst 3, 1) := by decide +kernel
theorem dX6_moveState_56 : decode cX6_moveState 56 = .ok (.if_icmp .ne 4, 3) := by decide +kernel
theorem dX6_moveState_59 : decode cX6_moveState 59 = .ok (.return_, 1) := by decide +kernel
theorem dX6_moveState_60 : decode cX6_moveState 60 = .ok (.aload_n 0, 1) := by decide +kernel
theorem dX6_moveState_61 : decode cX6_moveState 61 = .ok (.getfield 84, 3) := by decide +kernel
theorem dX6_moveState_64 : decode cX6_moveState 64 = .ok (.iload_n 1, 1) := by decide +kernel
theorem dX6_moveState_65 : decode cX6_moveState 65 = .ok (.dup2, 1) := by decide +kernel
theorem dX6_moveState_66 : decode cX6_moveState 66 = .ok (.iaload, 1) := by decide +kernel
theorem dX6_moveState_67 : decode cX6_moveState 67 = .ok (.iconst 1, 1) := by decide +kernel
theorem dX6_moveState_68 : decode cX6_moveState 68 = .ok (.isub, 1) := by decide +kernel
theorem dX6_moveState_69 : decode cX6_moveState 69 = .ok (.iastore, 1) := by decide +kernel
theorem dX6_moveState_70 : decode cX6_moveState 70 = .ok (.aload_n 0, 1) := by decide +kernel
theorem dX6_moveState_71 : decode cX6_moveState 71 = .ok (.getfield 84, 3) := by decide +kernel
theorem dX6_moveState_74 : decode cX6_moveState 74 = .ok (.iload_n 1, 1) := by decide +kernel
theorem dX6_moveState_75 : decode cX6_moveState 75 = .ok (.iaload, 1) := by decide +kernel
theorem dX6_moveState_76 : decode cX6_moveState 76 = .ok (.ifCond .ne 30, 3) := by decide +kernel
theorem dX6_moveState_79 : decode cX6_moveState 79 = .ok (.aload_n 0, 1) := by decide +kernel
theorem dX6_moveState_80 : decode cX6_moveState 80 = .ok (.getfield 41, 3) := by decide +kernel
theorem dX6_moveState_83 : decode cX6_moveState 83 = .ok (.iload_n 1, 1) := by decide +kernel
theorem dX6_moveState_84 : decode cX6_moveState 84 = .ok (.iaload, 1) := by decide +kernel
theorem dX6_moveState_85 : decode cX6_moveState 85 = .ok (.iconst 1, 1) := by decide +kernel
theorem dX6_moveState_86 : decode cX6_moveState 86 = .ok (.if_icmp .ne 20, 3) := by decide +kernel
theorem dX6_moveState_89 : decode cX6_moveState 89 = .ok (.aload_n 0, 1) := by decide +kernel
theorem dX6_moveState_90 : decode cX6_moveState 90 = .ok (.getfield 41, 3) := by decide +kernel
theorem dX6_moveState_93 : decode cX6_moveState 93 = .ok (.iload_n 1, 1) := by decide +kernel
theorem dX6_moveState_94 : decode cX6_moveState 94 = .ok (.iconst 2, 1) := by decide +kernel
theorem dX6_moveState_95 : decode cX6_moveState 95 = .ok (.iastore, 1) := by decide +kernel
theorem dX6_moveState_96 : decode cX6_moveState 96 = .ok (.aload_n 0, 1) := by decide +kernel
theorem dX6_moveState_97 : decode cX6_moveState 97 = .ok (.getfield 84, 3) := by decide +kernel
theorem dX6_moveState_100 : decode cX6_moveState 100 = .ok (.iload_n 1, 1) := by decide +kernel
theorem dX6_moveState_101 : decode cX6_moveState 101 = .ok (.iload_n 2, 1) := by decide +kernel
theorem dX6_moveState_102 : decode cX6_moveState 102 = .ok (.iastore, 1) := by decide +kernel
theorem dX6_moveState_103 : decode cX6_moveState 103 = .ok (.goto 19, 3) := by decide +kernel
theorem dX6_moveState_106 : decode cX6_moveState 106 = .ok (.aload_n 0, 1) := by decide +kernel
theorem dX6_moveState_107 : decode cX6_moveState 107 = .ok (.getfield 84, 3) := by decide +kernel
theorem dX6_moveState_110 : decode cX6_moveState 110 = .ok (.iload_n 1, 1) := by decide +kernel
theorem dX6_moveState_111 : decode cX6_moveState 111 = .ok (.iaload, 1) := by decide +kernel
theorem dX6_moveState_112 : decode cX6_moveState 112 = .ok (.ifCond .ne 10, 3) := by decide +kernel
theorem dX6_moveState_115 : decode cX6_moveState 115 = .ok (.aload_n 0, 1) := by decide +kernel
theorem dX6_moveState_116 : decode cX6_moveState 116 = .ok (.getfield 41, 3) := by decide +kernel
theorem dX6_moveState_119 : decode cX6_moveState 119 = .ok (.iload_n 1, 1) := by decide +kernel
theorem dX6_moveState_120 : decode cX6_moveState 120 = .ok (.iconst 3, 1) := by decide +kernel
theorem dX6_moveState_121 : decode cX6_moveState 121 = .ok (.iastore, 1) := by decide +kernel
theorem dX6_moveState_122 : decode cX6_moveState 122 = .ok (.return_, 1) := by decide +kernel
theorem dX6_flushTables_0 : decode cX6_flushTables 0 = .ok (.iconst 0, 1) := by decide +kernel
theorem dX6_flushTables_1 : decode cX6_flushTables 1 = .ok (.istore_n 3, 1) := by decide +kernel
theorem dX6_flushTables_2 : decode cX6_flushTables 2 = .ok (.iload_n 3, 1) := by decide +kernel
theorem dX6_flushTables_3 : decode cX6_flushTables 3 = .ok (.aload_n 1, 1) := by decide +kernel
theorem dX6_flushTables_4 : decode cX6_flushTables 4 = .ok (.getfield 87, 3) := by decide +kernel
theorem dX6_flushTables_7 : decode cX6_flushTables 7 = .ok (.if_icmp .ge 55, 3) := by decide +kernel
theorem dX6_flushTables_10 : decode cX6_flushTables 10 = .ok (.iconst 0, 1) := by decide +kernel
theorem dX6_flushTables_11 : decode cX6_flushTables 11 = .ok (.istore 4, 2) := by decide +kernel
theorem dX6_flushTables_13 : decode cX6_flushTables 13 = .ok (.iload 4, 2) := by decide +kernel
theorem dX6_flushTables_15 : decode cX6_flushTables 15 = .ok (.aload_n 1, 1) := by decide +kernel
theorem dX6_flushTables_16 : decode cX6_flushTables 16 = .ok (.getfield 87, 3) := by decide +kernel
theorem dX6_flushTables_19 : decode cX6_flushTables 19 = .ok (.if_icmp .ge 37, 3) := by decide +kernel
theorem dX6_flushTables_22 : decode cX6_flushTables 22 = .ok (.aload_n 0, 1) := by decide +kernel
theorem dX6_flushTables_23 : decode cX6_flushTables 23 = .ok (.getfield 9, 3) := by decide +kernel
theorem dX6_flushTables_26 : decode cX6_flushTables 26 = .ok (.iload 4, 2) := by decide +kernel
theorem dX6_flushTables_28 : decode cX6_flushTables 28 = .ok (.baload, 1) := by decide +kernel
theorem dX6_flushTables_29 : decode cX6_flushTables 29 = .ok (.ifCond .eq 21, 3) := by decide +kernel
theorem dX6_flushTables_32 : decode cX6_flushTables 32 = .ok (.aload_n 2, 1) := by decide +kernel
theorem dX6_flushTables_33 : decode cX6_flushTables 33 = .ok (.iload 4, 2) := by decide +kernel
theorem dX6_flushTables_35 : decode cX6_flushTables 35 = .ok (.iload_n 3, 1) := by decide +kernel
theorem dX6_flushTables_36 : decode cX6_flushTables 36 = .ok (.invokevirtual 90, 3) := by decide +kernel
theorem dX6_flushTables_39 : decode cX6_flushTables 39 = .ok (.ifCond .eq 11, 3) := by decide +kernel
theorem dX6_flushTables_42 : decode cX6_flushTables 42 = .ok (.aload_n 1, 1) := by decide +kernel
theorem dX6_flushTables_43 : decode cX6_flushTables 43 = .ok (.getfield 47, 3) := by decide +kernel
theorem dX6_flushTables_46 : decode cX6_flushTables 46 = .ok (.iload_n 3, 1) := by decide +kernel
theorem dX6_flushTables_47 : decode cX6_flushTables 47 = .ok (.invokevirtual 96, 3) := by decide +kernel
theorem dX6_flushTables_50 : decode cX6_flushTables 50 = .ok (.iinc 4 1, 3) := by decide +kernel
theorem dX6_flushTables_53 : decode cX6_flushTables 53 = .ok (.goto (-40), 3) := by decide +kernel
theorem dX6_flushTables_56 : decode cX6_flushTables 56 = .ok (.iinc 3 1, 3) := by decide +kernel
theorem dX6_flushTables_59 : decode cX6_flushTables 59 = .ok (.goto (-57), 3) := by decide +kernel
theorem dX6_flushTables_62 : decode cX6_flushTables 62 = .ok (.return_, 1) := by decide +kernel
theorem dX7_init_0 : decode cX7_init 0 = .ok (.aload_n 0, 1) := by decide +kernel
theorem dX7_init_1 : decode cX7_init 1 = .ok (.invokespecial 3, 3) := by decide +kernel
theorem dX7_init_4 : decode cX7_init 4 = .ok (.aload_n 0, 1) := by decide +kernel
theorem dX7_init_5 : decode cX7_init 5 = .ok (.iconst 3, 1) := by decide +kernel
theorem dX7_init_6 : decode cX7_init 6 = .ok (.newarray .int, 2) := by decide +kernel
theorem dX7_init_8 : decode cX7_init 8 = .ok (.putfield 11, 3) := by decide +kernel
theorem dX7_init_11 : decode cX7_init 11 = .ok (.aload_n 0, 1) := by decide +kernel
theorem dX7_init_12 : decode cX7_init 12 = .ok (.bipush 120, 2) := by decide +kernel
theorem dX7_init_14 : decode cX7_init 14 = .ok (.newarray .int, 2) := by decide +kernel
theorem dX7_init_16 : decode cX7_init 16 = .ok (.putfield 15, 3) := by decide +kernel
theorem dX7_init_19 : decode cX7_init 19 = .ok (.return_, 1) := by decide +kernel
theorem dX7_isFull_0 : decode cX7_isFull 0 = .ok (.aload_n 0, 1) := by decide +kernel
theorem dX7_isFull_1 : decode cX7_isFull 1 = .ok (.getfield 18, 3) := by decide +kernel
theorem dX7_isFull_4 : decode cX7_isFull 4 = .ok (.bipush 120, 2) := by decide +kernel
theorem dX7_isFull_6 : decode cX7_isFull 6 = .ok (.if_icmp .lt 7, 3) := by decide +kernel
theorem dX7_isFull_9 : decode cX7_isFull 9 = .ok (.iconst 1, 1) := by decide +kernel
theorem dX7_isFull_10 : decode cX7_isFull 10 = .ok (.goto 4, 3) := by decide +kernel
theorem dX7_isFull_13 : decode cX7_isFull 13 = .ok (.iconst 0, 1) := by decide +kernel
theorem dX7_isFull_14 : decode cX7_isFull 14 = .ok (.ireturn, 1) := by decide +kernel
theorem dX7_append_0 : decode cX7_append 0 = .ok (.aload_n 0, 1) := by decide +kernel
theorem dX7_append_1 : decode cX7_append 1 = .ok (.invokevirtual 22, 3) := by decide +kernel
theorem dX7_append_4 : decode cX7_append 4 = .ok (.ifCond .ne 23, 3) := by decide +kernel
theorem dX7_append_7 : decode cX7_append 7 = .ok (.aload_n 0, 1) := by decide +kernel
theorem dX7_append_8 : decode cX7_append 8 = .ok (.getfield 15, 3) := by decide +kernel
theorem dX7_append_11 : decode cX7_append 11 = .ok (.aload_n 0, 1) := by decide +kernel
theorem dX7_append_12 : decode cX7_append 12 = .ok (.getfield 18, 3) := by decide +kernel
theorem dX7_append_15 : decode cX7_append 15 = .ok (.iload_n 1, 1) := by decide +kernel
theorem dX7_append_16 : decode cX7_append 16 = .ok (.iastore, 1) := by decide +kernel
theorem dX7_append_17 : decode cX7_append 17 = .ok (.aload_n 0, 1) := by decide +kernel
theorem dX7_append_18 : decode cX7_append 18 = .ok (.dup, 1) := by decide +kernel
theorem dX7_append_19 : decode cX7_append 19 = .ok (.getfield 18, 3) := by decide +kernel
theorem dX7_append_22 : decode cX7_append 22 = .ok (.iconst 1, 1) := by decide +kernel
theorem dX7_append_23 : decode cX7_append 23 = .ok (.iadd, 1) := by decide +kernel
theorem dX7_append_24 : decode cX7_append 24 = .ok (.putfield 18, 3) := by decide +kernel
theorem dX7_append_27 : decode cX7_append 27 = .ok (.aload_n 0, 1) := by decide +kernel
theorem dX7_append_28 : decode cX7_append 28 = .ok (.getfield 18, 3) := by decide +kernel
theorem dX7_append_31 : decode cX7_append 31 = .ok (.ireturn, 1) := by decide +kernel
theorem dX7_rewind_0 : decode cX7_rewind 0 = .ok (.aload_n 0, 1) := by decide +kernel
theorem dX7_rewind_1 : decode cX7_rewind 1 = .ok (.iconst 0, 1) := by decide +kernel
theorem dX7_rewind_2 : decode cX7_rewind 2 = .ok (.putfield 26, 3) := by decide +kernel
theorem dX7_rewind_5 : decode cX7_rewind 5 = .ok (.aload_n 0, 1) := by decide +kernel
theorem dX7_rewind_6 : decode cX7_rewind 6 = .ok (.iconst (-1), 1) := by decide +kernel
theorem dX7_rewind_7 : decode cX7_rewind 7 = .ok (.putfield 29, 3) := by decide +kernel
theorem dX7_rewind_10 : decode cX7_rewind 10 = .ok (.return_, 1) := by decide +kernel
theorem dX7_findFault_0 : decode cX7_findFault 0 = .ok (.aload_n 0, 1) := by decide +kernel
theorem dX7_findFault_1 : decode cX7_findFault 1 = .ok (.invokevirtual 32, 3) := by decide +kernel
theorem dX7_findFault_4 : decode cX7_findFault 4 = .ok (.iconst 0, 1) := by decide +kernel
theorem dX7_findFault_5 : decode cX7_findFault 5 = .ok (.istore_n 1, 1) := by decide +kernel
theorem dX7_findFault_6 : decode cX7_findFault 6 = .ok (.iload_n 1, 1) := by decide +kernel
theorem dX7_findFault_7 : decode cX7_findFault 7 = .ok (.aload_n 0, 1) := by decide +kernel
theorem dX7_findFault_8 : decode cX7_findFault 8 = .ok (.getfield 18, 3) := by decide +kernel
theorem dX7_findFault_11 : decode cX7_findFault 11 = .ok (.if_icmp .gt 21, 3) := by decide +kernel
theorem dX7_findFault_14 : decode cX7_findFault 14 = .ok (.aload_n 0, 1) := by decide +kernel
theorem dX7_findFault_15 : decode cX7_findFault 15 = .ok (.invokevirtual 35, 3) := by decide +kernel
theorem dX7_findFault_18 : decode cX7_findFault 18 = .ok (.ifCond .ne 8, 3) := by decide +kernel
theorem dX7_findFault_21 : decode cX7_findFault 21 = .ok (.aload_n 0, 1) := by decide +kernel
theorem dX7_findFault_22 : decode cX7_findFault 22 = .ok (.getfield 29, 3) := by decide +kernel
theorem dX7_findFault_25 : decode cX7_findFault 25 = .ok (.ireturn, 1) := by decide +kernel
theorem dX7_findFault_26 : decode cX7_findFault 26 = .ok (.iinc 1 1, 3) := by decide +kernel
theorem dX7_findFault_29 : decode cX7_findFault 29 = .ok (.goto (-23), 3) := by decide +kernel
theorem dX7_findFault_32 : decode cX7_findFault 32 = .ok (.aload_n 0, 1) := by decide +kernel
theorem dX7_findFault_33 : decode cX7_findFault 33 = .ok (.getfield 29, 3) := by decide +kernel
theorem dX7_findFault_36 : decode cX7_findFault 36 = .ok (.ireturn, 1) := by decide +kernel
theorem dX7_readCommand_0 : decode cX7_readCommand 0 = .ok (.aload_n 0, 1) := by decide +kernel
theorem dX7_readCommand_1 : decode cX7_readCommand 1 = .ok (.invokevirtual 38, 3) := by decide +kernel
theorem dX7_readCommand_4 : decode cX7_readCommand 4 = .ok (.aload_n 0, 1) := by decide +kernel
theorem dX7_readCommand_5 : decode cX7_readCommand 5 = .ok (.getfield 26, 3) := by decide +kernel
theorem dX7_readCommand_8 : decode cX7_readCommand 8 = .ok (.aload_n 0, 1) := by decide +kernel
theorem dX7_readCommand_9 : decode cX7_readCommand 9 = .ok (.getfield 18, 3) := by decide +kernel
theorem dX7_readCommand_12 : decode cX7_readCommand 12 = .ok (.if_icmp .lt 5, 3) := by decide +kernel
theorem dX7_readCommand_15 : decode cX7_readCommand 15 = .ok (.iconst 0, 1) := by decide +kernel
theorem dX7_readCommand_16 : decode cX7_readCommand 16 = .ok (.ireturn, 1) := by decide +kernel
theorem dX7_readCommand_17 : decode cX7_readCommand 17 = .ok (.aload_n 0, 1) := by decide +kernel
theorem dX7_readCommand_18 : decode cX7_readCommand 18 = .ok (.invokevirtual 41, 3) := by decide +kernel
theorem dX7_readCommand_21 : decode cX7_readCommand 21 = .ok (.ifCond .ne 5, 3) := by decide +kernel
theorem dX7_readCommand_24 : decode cX7_readCommand 24 = .ok (.iconst 0, 1) := by decide +kernel
theorem dX7_readCommand_25 : decode cX7_readCommand 25 = .ok (.ireturn, 1) := by decide +kernel
theorem dX7_readCommand_26 : decode cX7_readCommand 26 = .ok (.iconst 0, 1) := by decide +kernel
theorem dX7_readCommand_27 : decode cX7_readCommand 27 = .ok (.istore_n 1, 1) := by decide +kernel
theorem dX7_readCommand_28 : decode cX7_readCommand 28 = .ok (.iload_n 1, 1) := by decide +kernel
theorem dX7_readCommand_29 : decode cX7_readCommand 29 = .ok (.iconst 3, 1) := by decide +kernel
theorem dX7_readCommand_30 : decode cX7_readCommand 30 = .ok (.if_icmp .ge 16, 3) := by decide +kernel
theorem dX7_readCommand_33 : decode cX7_readCommand 33 = .ok (.aload_n 0, 1) := by decide +kernel
theorem dX7_readCommand_34 : decode cX7_readCommand 34 = .ok (.getfield 11, 3) := by decide +kernel
theorem dX7_readCommand_37 : decode cX7_readCommand 37 = .ok (.iload_n 1, 1) := by decide +kernel
theorem dX7_readCommand_38 : decode cX7_readCommand 38 = .ok (.iconst 0, 1) := by decide +kernel
theorem dX7_readCommand_39 : decode cX7_readCommand 39 = .ok (.iastore, 1) := by decide +kernel
theorem dX7_readCommand_40 : decode cX7_readCommand 40 = .ok (.iinc 1 1, 3) := by decide +kernel
theorem dX7_readCommand_43 : decode cX7_readCommand 43 = .ok (.goto (-15), 3) := by decide +kernel
theorem dX7_readCommand_46 : decode cX7_readCommand 46 = .ok (.iconst 0, 1) := by decide +kernel
theorem dX7_readCommand_47 : decode cX7_readCommand 47 = .ok (.istore_n 1, 1) := by decide +kernel
theorem dX7_readCommand_48 : decode cX7_readCommand 48 = .ok (.iload_n 1, 1) := by decide +kernel
theorem dX7_readCommand_49 : decode cX7_readCommand 49 = .ok (.getstatic 44, 3) := by decide +kernel
theorem dX7_readCommand_52 : decode cX7_readCommand 52 = .ok (.aload_n 0, 1) := by decide +kernel
theorem dX7_readCommand_53 : decode cX7_readCommand 53 = .ok (.getfield 47, 3) := by decide +kernel
theorem dX7_readCommand_56 : decode cX7_readCommand 56 = .ok (.iaload, 1) := by decide +kernel
theorem dX7_readCommand_57 : decode cX7_readCommand 57 = .ok (.if_icmp .ge 24, 3) := by decide +kernel
theorem dX7_readCommand_60 : decode cX7_readCommand 60 = .ok (.iload_n 1, 1) := by decide +kernel
theorem dX7_readCommand_61 : decode cX7_readCommand 61 = .ok (.iconst 3, 1) := by decide +kernel
theorem dX7_readCommand_62 : decode cX7_readCommand 62 = .ok (.if_icmp .ge 19, 3) := by decide +kernel
theorem dX7_readCommand_65 : decode cX7_readCommand 65 = .ok (.aload_n 0, 1) := by decide +kernel
theorem dX7_readCommand_66 : decode cX7_readCommand 66 = .ok (.iload_n 1, 1) := by decide +kernel
theorem dX7_readCommand_67 : decode cX7_readCommand 67 = .ok (.invokevirtual 50, 3) := by decide +kernel
theorem dX7_readCommand_70 : decode cX7_readCommand 70 = .ok (.ifCond .ne 5, 3) := by decide +kernel
theorem dX7_readCommand_73 : decode cX7_readCommand 73 = .ok (.iconst 0, 1) := by decide +kernel
theorem dX7_readCommand_74 : decode cX7_readCommand 74 = .ok (.ireturn, 1) := by decide +kernel
theorem dX7_readCommand_75 : decode cX7_readCommand 75 = .ok (.iinc 1 1, 3) := by decide +kernel
theorem dX7_readCommand_78 : decode cX7_readCommand 78 = .ok (.goto (-30), 3) := by decide +kernel
theorem dX7_readCommand_81 : decode cX7_readCommand 81 = .ok (.aload_n 0, 1) := by decide +kernel
theorem dX7_readCommand_82 : decode cX7_readCommand 82 = .ok (.invokevirtual 38, 3) := by decide +kernel
theorem dX7_readCommand_85 : decode cX7_readCommand 85 = .ok (.aload_n 0, 1) := by decide +kernel
theorem dX7_readCommand_86 : decode cX7_readCommand 86 = .ok (.invokevirtual 54, 3) := by decide +kernel
theorem dX7_readCommand_89 : decode cX7_readCommand 89 = .ok (.bipush 59, 2) := by decide +kernel
theorem dX7_readCommand_91 : decode cX7_readCommand 91 = .ok (.if_icmp .eq 8, 3) := by decide +kernel
theorem dX7_readCommand_94 : decode cX7_readCommand 94 = .ok (.aload_n 0, 1) := by decide +kernel
theorem dX7_readCommand_95 : decode cX7_readCommand 95 = .ok (.invokevirtual 58, 3) := by decide +kernel
theorem dX7_readCommand_98 : decode cX7_readCommand 98 = .ok (.ireturn, 1) := by decide +kernel
theorem dX7_readCommand_99 : decode cX7_readCommand 99 = .ok (.aload_n 0, 1) := by decide +kernel
theorem dX7_readCommand_100 : decode cX7_readCommand 100 = .ok (.dup, 1) := by decide +kernel
theorem dX7_readCommand_101 : decode cX7_readCommand 101 = .ok (.getfield 26, 3) := by decide +kernel
theorem dX7_readCommand_104 : decode cX7_readCommand 104 = .ok (.iconst 1, 1) := by decide +kernel
theorem dX7_readCommand_105 : decode cX7_readCommand 105 = .ok (.iadd, 1) := by decide +kernel
theorem dX7_readCommand_106 : decode cX7_readCommand 106 = .ok (.putfield 26, 3) := by decide +kernel
theorem dX7_readCommand_109 : decode cX7_readCommand 109 = .ok (.iconst 1, 1) := by decide +kernel
theorem dX7_readCommand_110 : decode cX7_readCommand 110 = .ok (.ireturn, 1) := by decide +kernel
theorem dX7_readWord_0 : decode cX7_readWord 0 = .ok (.aload_n 0, 1) := by decide +kernel
theorem dX7_readWord_1 : decode cX7_readWord 1 = .ok (.getfield 26, 3) := by decide +kernel
theorem dX7_readWord_4 : decode cX7_readWord 4 = .ok (.istore_n 1, 1) := by decide +kernel
theorem dX7_readWord_5 : decode cX7_readWord 5 = .ok (.aload_n 0, 1) := by decide +kernel
theorem dX7_readWord_6 : decode cX7_readWord 6 = .ok (.getfield 26, 3) := by decide +kernel
theorem dX7_readWord_9 : decode cX7_readWord 9 = .ok (.aload_n 0, 1) := by decide +kernel
theorem dX7_readWord_10 : decode cX7_readWord 10 = .ok (.getfield 18, 3) := by decide +kernel
theorem dX7_readWord_13 : decode cX7_readWord 13 = .ok (.if_icmp .ge 31, 3) := by decide +kernel
theorem dX7_readWord_16 : decode cX7_readWord 16 = .ok (.aload_n 0, 1) := by decide +kernel
theorem dX7_readWord_17 : decode cX7_readWord 17 = .ok (.getfield 15, 3) := by decide +kernel
theorem dX7_readWord_20 : decode cX7_readWord 20 = .ok (.aload_n 0, 1) := by decide +kernel
theorem dX7_readWord_21 : decode cX7_readWord 21 = .ok (.getfield 26, 3) := by decide +kernel
theorem dX7_readWord_24 : decode cX7_readWord 24 = .ok (.iaload, 1) := by decide +kernel
theorem dX7_readWord_25 : decode cX7_readWord 25 = .ok (.invokestatic 61, 3) := by decide +kernel
theorem dX7_readWord_28 : decode cX7_readWord 28 = .ok (.ifCond .eq 16, 3) := by decide +kernel
theorem dX7_readWord_31 : decode cX7_readWord 31 = .ok (.aload_n 0, 1) := by decide +kernel
theorem dX7_readWord_32 : decode cX7_readWord 32 = .ok (.dup, 1) := by decide +kernel
theorem dX7_readWord_33 : decode cX7_readWord 33 = .ok (.getfield 26, 3) := by decide +kernel
theorem dX7_readWord_36 : decode cX7_readWord 36 = .ok (.iconst 1, 1) := by decide +kernel
theorem dX7_readWord_37 : decode cX7_readWord 37 = .ok (.iadd, 1) := by decide +kernel
theorem dX7_readWord_38 : decode cX7_readWord 38 = .ok (.putfield 26, 3) := by decide +kernel
theorem dX7_readWord_41 : decode cX7_readWord 41 = .ok (.goto (-36), 3) := by decide +kernel
theorem dX7_readWord_44 : decode cX7_readWord 44 = .ok (.aload_n 0, 1) := by decide +kernel
theorem dX7_readWord_45 : decode cX7_readWord 45 = .ok (.getfield 26, 3) := by decide +kernel
theorem dX7_readWord_48 : decode cX7_readWord 48 = .ok (.iload_n 1, 1) := by decide +kernel
theorem dX7_readWord_49 : decode cX7_readWord 49 = .ok (.if_icmp .ne 8, 3) := by decide +kernel
theorem dX7_readWord_52 : decode cX7_readWord 52 = .ok (.aload_n 0, 1) := by decide +kernel
theorem dX7_readWord_53 : decode cX7_readWord 53 = .ok (.invokevirtual 58, 3) := by decide +kernel
theorem dX7_readWord_56 : decode cX7_readWord 56 = .ok (.ireturn, 1) := by decide +kernel
theorem dX7_readWord_57 : decode cX7_readWord 57 = .ok (.iconst 0, 1) := by decide +kernel
theorem dX7_readWord_58 : decode cX7_readWord 58 = .ok (.istore_n 2, 1) := by decide +kernel
theorem dX7_readWord_59 : decode cX7_readWord 59 = .ok (.iload_n 2, 1) := by decide +kernel
theorem dX7_readWord_60 : decode cX7_readWord 60 = .ok (.bipush 6, 2) := by decide +kernel
theorem dX7_readWord_62 : decode cX7_readWord 62 = .ok (.if_icmp .gt 31, 3) := by decide +kernel
theorem dX7_readWord_65 : decode cX7_readWord 65 = .ok (.aload_n 0, 1) := by decide +kernel
theorem dX7_readWord_66 : decode cX7_readWord 66 = .ok (.iload_n 2, 1) := by decide +kernel
theorem dX7_readWord_67 : decode cX7_readWord 67 = .ok (.iload_n 1, 1) := by decide +kernel
theorem dX7_readWord_68 : decode cX7_readWord 68 = .ok (.aload_n 0, 1) := by decide +kernel
theorem dX7_readWord_69 : decode cX7_readWord 69 = .ok (.getfield 26, 3) := by decide +kernel
theorem dX7_readWord_72 : decode cX7_readWord 72 = .ok (.iload_n 1, 1) := by decide +kernel
theorem dX7_readWord_73 : decode cX7_readWord 73 = .ok (.isub, 1) := by decide +kernel
theorem dX7_readWord_74 : decode cX7_readWord 74 = .ok (.invokevirtual 64, 3) := by decide +kernel
theorem dX7_readWord_77 : decode cX7_readWord 77 = .ok (.ifCond .eq 10, 3) := by decide +kernel
theorem dX7_readWord_80 : decode cX7_readWord 80 = .ok (.aload_n 0, 1) := by decide +kernel
theorem dX7_readWord_81 : decode cX7_readWord 81 = .ok (.iload_n 2, 1) := by decide +kernel
theorem dX7_readWord_82 : decode cX7_readWord 82 = .ok (.putfield 47, 3) := by decide +kernel
theorem dX7_readWord_85 : decode cX7_readWord 85 = .ok (.iconst 1, 1) := by decide +kernel
theorem dX7_readWord_86 : decode cX7_readWord 86 = .ok (.ireturn, 1) := by decide +kernel
theorem dX7_readWord_87 : decode cX7_readWord 87 = .ok (.iinc 2 1, 3) := by decide +kernel
theorem dX7_readWord_90 : decode cX7_readWord 90 = .ok (.goto (-31), 3) := by decide +kernel
theorem dX7_readWord_93 : decode cX7_readWord 93 = .ok (.aload_n 0, 1) := by decide +kernel
theorem dX7_readWord_94 : decode cX7_readWord 94 = .ok (.iload_n 1, 1) := by decide +kernel
theorem dX7_readWord_95 : decode cX7_readWord 95 = .ok (.putfield 26, 3) := by decide +kernel
theorem dX7_readWord_98 : decode cX7_readWord 98 = .ok (.aload_n 0, 1) := by decide +kernel
theorem dX7_readWord_99 : decode cX7_readWord 99 = .ok (.invokevirtual 58, 3) := by decide +kernel
theorem dX7_readWord_102 : decode cX7_readWord 102 = .ok (.ireturn, 1) := by decide +kernel
theorem dX7_isWord_0 : decode cX7_isWord 0 = .ok (.iload_n 3, 1) := by decide +kernel
theorem dX7_isWord_1 : decode cX7_isWord 1 = .ok (.iconst 4, 1) := by decide +kernel
theorem dX7_isWord_2 : decode cX7_isWord 2 = .ok (.if_icmp .le 5, 3) := by decide +kernel
theorem dX7_isWord_5 : decode cX7_isWord 5 = .ok (.iconst 0, 1) := by decide +kernel
theorem dX7_isWord_6 : decode cX7_isWord 6 = .ok (.ireturn, 1) := by decide +kernel
theorem dX7_isWord_7 : decode cX7_isWord 7 = .ok (.iload_n 1, 1) := by decide +kernel
theorem dX7_isWord_8 : decode cX7_isWord 8 = .ok (.iconst 5, 1) := by decide +kernel
theorem dX7_isWord_9 : decode cX7_isWord 9 = .ok (.imul, 1) := by decide +kernel
theorem dX7_isWord_10 : decode cX7_isWord 10 = .ok (.istore 4, 2) := by decide +kernel
theorem dX7_isWord_12 : decode cX7_isWord 12 = .ok (.iconst 0, 1) := by decide +kernel
theorem dX7_isWord_13 : decode cX7_isWord 13 = .ok (.istore 5, 2) := by decide +kernel
theorem dX7_isWord_15 : decode cX7_isWord 15 = .ok (.iload 5, 2) := by decide +kernel
theorem dX7_isWord_17 : decode cX7_isWord 17 = .ok (.iload_n 3, 1) := by decide +kernel
theorem dX7_isWord_18 : decode cX7_isWord 18 = .ok (.if_icmp .ge 33, 3) := by decide +kernel
theorem dX7_isWord_21 : decode cX7_isWord 21 = .ok (.ldc 68, 2) := by decide +kernel
theorem dX7_isWord_23 : decode cX7_isWord 23 = .ok (.iload 4, 2) := by decide +kernel
theorem dX7_isWord_25 : decode cX7_isWord 25 = .ok (.iload 5, 2) := by decide +kernel
theorem dX7_isWord_27 : decode cX7_isWord 27 = .ok (.iadd, 1) := by decide +kernel
theorem dX7_isWord_28 : decode cX7_isWord 28 = .ok (.invokevirtual 70, 3) := by decide +kernel
theorem dX7_isWord_31 : decode cX7_isWord 31 = .ok (.aload_n 0, 1) := by decide +kernel
theorem dX7_isWord_32 : decode cX7_isWord 32 = .ok (.getfield 15, 3) := by decide +kernel
theorem dX7_isWord_35 : decode cX7_isWord 35 = .ok (.iload_n 2, 1) := by decide +kernel
theorem dX7_isWord_36 : decode cX7_isWord 36 = .ok (.iload 5, 2) := by decide +kernel
theorem dX7_isWord_38 : decode cX7_isWord 38 = .ok (.iadd, 1) := by decide +kernel
theorem dX7_isWord_39 : decode cX7_isWord 39 = .ok (.iaload, 1) := by decide +kernel
theorem dX7_isWord_40 : decode cX7_isWord 40 = .ok (.if_icmp .eq 5, 3) := by decide +kernel
theorem dX7_isWord_43 : decode cX7_isWord 43 = .ok (.iconst 0, 1) := by decide +kernel
theorem dX7_isWord_44 : decode cX7_isWord 44 = .ok (.ireturn, 1) := by decide +kernel
theorem dX7_isWord_45 : decode cX7_isWord 45 = .ok (.iinc 5 1, 3) := by decide +kernel
theorem dX7_isWord_48 : decode cX7_isWord 48 = .ok (.goto (-33), 3) := by decide +kernel
theorem dX7_isWord_51 : decode cX7_isWord 51 = .ok (.ldc 68, 2) := by decide +kernel
theorem dX7_isWord_53 : decode cX7_isWord 53 = .ok (.iload 4, 2) := by decide +kernel
theorem dX7_isWord_55 : decode cX7_isWord 55 = .ok (.iload_n 3, 1) := by decide +kernel
theorem dX7_isWord_56 : decode cX7_isWord 56 = .ok (.iadd, 1) := by decide +kernel
theorem dX7_isWord_57 : decode cX7_isWord 57 = .ok (.invokevirtual 70, 3) := by decide +kernel
theorem dX7_isWord_60 : decode cX7_isWord 60 = .ok (.bipush 32, 2) := by decide +kernel
theorem dX7_isWord_62 : decode cX7_isWord 62 = .ok (.if_icmp .ne 7, 3) := by decide +kernel
theorem dX7_isWord_65 : decode cX7_isWord 65 = .ok (.iconst 1, 1) := by decide +kernel
theorem dX7_isWord_66 : decode cX7_isWord 66 = .ok (.goto 4, 3) := by decide +kernel
theorem dX7_isWord_69 : decode cX7_isWord 69 = .ok (.iconst 0, 1) := by decide +kernel
theorem dX7_isWord_70 : decode cX7_isWord 70 = .ok (.ireturn, 1) := by decide +kernel
theorem dX7_readNumber_0 : decode cX7_readNumber 0 = .ok (.aload_n 0, 1) := by decide +kernel
theorem dX7_readNumber_1 : decode cX7_readNumber 1 = .ok (.invokevirtual 54, 3) := by decide +kernel
theorem dX7_readNumber_4 : decode cX7_readNumber 4 = .ok (.bipush 32, 2) := by decide +kernel
theorem dX7_readNumber_6 : decode cX7_readNumber 6 = .ok (.if_icmp .eq 8, 3) := by decide +kernel
theorem dX7_readNumber_9 : decode cX7_readNumber 9 = .ok (.aload_n 0, 1) := by decide +kernel
theorem dX7_readNumber_10 : decode cX7_readNumber 10 = .ok (.invokevirtual 58, 3) := by decide +kernel
theorem dX7_readNumber_13 : decode cX7_readNumber 13 = .ok (.ireturn, 1) := by decide +kernel
theorem dX7_readNumber_14 : decode cX7_readNumber 14 = .ok (.aload_n 0, 1) := by decide +kernel
theorem dX7_readNumber_15 : decode cX7_readNumber 15 = .ok (.invokevirtual 38, 3) := by decide +kernel
theorem dX7_readNumber_18 : decode cX7_readNumber 18 = .ok (.aload_n 0, 1) := by decide +kernel
theorem dX7_readNumber_19 : decode cX7_readNumber 19 = .ok (.getfield 26, 3) := by decide +kernel
theorem dX7_readNumber_22 : decode cX7_readNumber 22 = .ok (.istore_n 2, 1) := by decide +kernel
theorem dX7_readNumber_23 : decode cX7_readNumber 23 = .ok (.iconst 0, 1) := by decide +kernel
theorem dX7_readNumber_24 : decode cX7_readNumber 24 = .ok (.istore_n 3, 1) := by decide +kernel
theorem dX7_readNumber_25 : decode cX7_readNumber 25 = .ok (.aload_n 0, 1) := by decide +kernel
theorem dX7_readNumber_26 : decode cX7_readNumber 26 = .ok (.getfield 26, 3) := by decide +kernel
theorem dX7_readNumber_29 : decode cX7_readNumber 29 = .ok (.aload_n 0, 1) := by decide +kernel
theorem dX7_readNumber_30 : decode cX7_readNumber 30 = .ok (.getfield 18, 3) := by decide +kernel
theorem dX7_readNumber_33 : decode cX7_readNumber 33 = .ok (.if_icmp .ge 59, 3) := by decide +kernel
theorem dX7_readNumber_36 : decode cX7_readNumber 36 = .ok (.aload_n 0, 1) := by decide +kernel
theorem dX7_readNumber_37 : decode cX7_readNumber 37 = .ok (.getfield 26, 3) := by decide +kernel
theorem dX7_readNumber_40 : decode cX7_readNumber 40 = .ok (.iload_n 2, 1) := by decide +kernel
theorem dX7_readNumber_41 : decode cX7_readNumber 41 = .ok (.iconst 4, 1) := by decide +kernel
theorem dX7_readNumber_42 : decode cX7_readNumber 42 = .ok (.iadd, 1) := by decide +kernel
theorem dX7_readNumber_43 : decode cX7_readNumber 43 = .ok (.if_icmp .ge 49, 3) := by decide +kernel
theorem dX7_readNumber_46 : decode cX7_readNumber 46 = .ok (.aload_n 0, 1) := by decide +kernel
theorem dX7_readNumber_47 : decode cX7_readNumber 47 = .ok (.getfield 15, 3) := by decide +kernel
theorem dX7_readNumber_50 : decode cX7_readNumber 50 = .ok (.aload_n 0, 1) := by decide +kernel
theorem dX7_readNumber_51 : decode cX7_readNumber 51 = .ok (.getfield 26, 3) := by decide +kernel
theorem dX7_readNumber_54 : decode cX7_readNumber 54 = .ok (.iaload, 1) := by decide +kernel
theorem dX7_readNumber_55 : decode cX7_readNumber 55 = .ok (.invokestatic 76, 3) := by decide +kernel
theorem dX7_readNumber_58 : decode cX7_readNumber 58 = .ok (.ifCond .eq 34, 3) := by decide +kernel
theorem dX7_readNumber_61 : decode cX7_readNumber 61 = .ok (.bipush 10, 2) := by decide +kernel
theorem dX7_readNumber_63 : decode cX7_readNumber 63 = .ok (.iload_n 3, 1) := by decide +kernel
theorem dX7_readNumber_64 : decode cX7_readNumber 64 = .ok (.imul, 1) := by decide +kernel
theorem dX7_readNumber_65 : decode cX7_readNumber 65 = .ok (.aload_n 0, 1) := by decide +kernel
theorem dX7_readNumber_66 : decode cX7_readNumber 66 = .ok (.getfield 15, 3) := by decide +kernel
theorem dX7_readNumber_69 : decode cX7_readNumber 69 = .ok (.aload_n 0, 1) := by decide +kernel
theorem dX7_readNumber_70 : decode cX7_readNumber 70 = .ok (.getfield 26, 3) := by decide +kernel
theorem dX7_readNumber_73 : decode cX7_readNumber 73 = .ok (.iaload, 1) := by decide +kernel
theorem dX7_readNumber_74 : decode cX7_readNumber 74 = .ok (.iadd, 1) := by decide +kernel
theorem dX7_readNumber_75 : decode cX7_readNumber 75 = .ok (.bipush 48, 2) := by decide +kernel
theorem dX7_readNumber_77 : decode cX7_readNumber 77 = .ok (.isub, 1) := by decide +kernel
theorem dX7_readNumber_78 : decode cX7_readNumber 78 = .ok (.istore_n 3, 1) := by decide +kernel
theorem dX7_readNumber_79 : decode cX7_readNumber 79 = .ok (.aload_n 0, 1) := by decide +kernel
theorem dX7_readNumber_80 : decode cX7_readNumber 80 = .ok (.dup, 1) := by decide +kernel
theorem dX7_readNumber_81 : decode cX7_readNumber 81 = .ok (.getfield 26, 3) := by decide +kernel
theorem dX7_readNumber_84 : decode cX7_readNumber 84 = .ok (.iconst 1, 1) := by decide +kernel
theorem dX7_readNumber_85 : decode cX7_readNumber 85 = .ok (.iadd, 1) := by decide +kernel
theorem dX7_readNumber_86 : decode cX7_readNumber 86 = .ok (.putfield 26, 3) := by decide +kernel
theorem dX7_readNumber_89 : decode cX7_readNumber 89 = .ok (.goto (-64), 3) := by decide +kernel
theorem dX7_readNumber_92 : decode cX7_readNumber 92 = .ok (.aload_n 0, 1) := by decide +kernel
theorem dX7_readNumber_93 : decode cX7_readNumber 93 = .ok (.getfield 26, 3) := by decide +kernel
theorem dX7_readNumber_96 : decode cX7_readNumber 96 = .ok (.iload_n 2, 1) := by decide +kernel
theorem dX7_readNumber_97 : decode cX7_readNumber 97 = .ok (.if_icmp .ne 8, 3) := by decide +kernel
theorem dX7_readNumber_100 : decode cX7_readNumber 100 = .ok (.aload_n 0, 1) := by decide +kernel
theorem dX7_readNumber_101 : decode cX7_readNumber 101 = .ok (.invokevirtual 58, 3) := by decide +kernel
theorem dX7_readNumber_104 : decode cX7_readNumber 104 = .ok (.ireturn, 1) := by decide +kernel
theorem dX7_readNumber_105 : decode cX7_readNumber 105 = .ok (.aload_n 0, 1) := by decide +kernel
theorem dX7_readNumber_106 : decode cX7_readNumber 106 = .ok (.getfield 11, 3) := by decide +kernel
theorem dX7_readNumber_109 : decode cX7_readNumber 109 = .ok (.iload_n 1, 1) := by decide +kernel
theorem dX7_readNumber_110 : decode cX7_readNumber 110 = .ok (.iload_n 3, 1) := by decide +kernel
theorem dX7_readNumber_111 : decode cX7_readNumber 111 = .ok (.iastore, 1) := by decide +kernel
theorem dX7_readNumber_112 : decode cX7_readNumber 112 = .ok (.iconst 1, 1) := by decide +kernel
theorem dX7_readNumber_113 : decode cX7_readNumber 113 = .ok (.ireturn, 1) := by decide +kernel
theorem dX7_skipSpaces_0 : decode cX7_skipSpaces 0 = .ok (.aload_n 0, 1) := by decide +kernel
theorem dX7_skipSpaces_1 : decode cX7_skipSpaces 1 = .ok (.getfield 26, 3) := by decide +kernel
theorem dX7_skipSpaces_4 : decode cX7_skipSpaces 4 = .ok (.aload_n 0, 1) := by decide +kernel
theorem dX7_skipSpaces_5 : decode cX7_skipSpaces 5 = .ok (.getfield 18, 3) := by decide +kernel
theorem dX7_skipSpaces_8 : decode cX7_skipSpaces 8 = .ok (.if_icmp .ge 30, 3) := by decide +kernel
theorem dX7_skipSpaces_11 : decode cX7_skipSpaces 11 = .ok (.aload_n 0, 1) := by decide +kernel
theorem dX7_skipSpaces_12 : decode cX7_skipSpaces 12 = .ok (.getfield 15, 3) := by decide +kernel
theorem dX7_skipSpaces_15 : decode cX7_skipSpaces 15 = .ok (.aload_n 0, 1) := by decide +kernel
theorem dX7_skipSpaces_16 : decode cX7_skipSpaces 16 = .ok (.getfield 26, 3) := by decide +kernel
theorem dX7_skipSpaces_19 : decode cX7_skipSpaces 19 = .ok (.iaload, 1) := by decide +kernel
theorem dX7_skipSpaces_20 : decode cX7_skipSpaces 20 = .ok (.bipush 32, 2) := by decide +kernel
theorem dX7_skipSpaces_22 : decode cX7_skipSpaces 22 = .ok (.if_icmp .ne 16, 3) := by decide +kernel
theorem dX7_skipSpaces_25 : decode cX7_skipSpaces 25 = .ok (.aload_n 0, 1) := by decide +kernel
theorem dX7_skipSpaces_26 : decode cX7_skipSpaces 26 = .ok (.dup, 1) := by decide +kernel
theorem dX7_skipSpaces_27 : decode cX7_skipSpaces 27 = .ok (.getfield 26, 3) := by decide +kernel
theorem dX7_skipSpaces_30 : decode cX7_skipSpaces 30 = .ok (.iconst 1, 1) := by decide +kernel
theorem dX7_skipSpaces_31 : decode cX7_skipSpaces 31 = .ok (.iadd, 1) := by decide +kernel
theorem dX7_skipSpaces_32 : decode cX7_skipSpaces 32 = .ok (.putfield 26, 3) := by decide +kernel
theorem dX7_skipSpaces_35 : decode cX7_skipSpaces 35 = .ok (.goto (-35), 3) := by decide +kernel
theorem dX7_skipSpaces_38 : decode cX7_skipSpaces 38 = .ok (.return_, 1) := by decide +kernel
theorem dX7_byteHere_0 : decode cX7_byteHere 0 = .ok (.aload_n 0, 1) := by decide +kernel
theorem dX7_byteHere_1 : decode cX7_byteHere 1 = .ok (.getfield 26, 3) := by decide +kernel
theorem dX7_byteHere_4 : decode cX7_byteHere 4 = .ok (.aload_n 0, 1) := by decide +kernel
theorem dX7_byteHere_5 : decode cX7_byteHere 5 = .ok (.getfield 18, 3) := by decide +kernel
theorem dX7_byteHere_8 : decode cX7_byteHere 8 = .ok (.if_icmp .ge 15, 3) := by decide +kernel
theorem dX7_byteHere_11 : decode cX7_byteHere 11 = .ok (.aload_n 0, 1) := by decide +kernel
theorem dX7_byteHere_12 : decode cX7_byteHere 12 = .ok (.getfield 15, 3) := by decide +kernel
theorem dX7_byteHere_15 : decode cX7_byteHere 15 = .ok (.aload_n 0, 1) := by decide +kernel
theorem dX7_byteHere_16 : decode cX7_byteHere 16 = .ok (.getfield 26, 3) := by decide +kernel
theorem dX7_byteHere_19 : decode cX7_byteHere 19 = .ok (.iaload, 1) := by decide +kernel
theorem dX7_byteHere_20 : decode cX7_byteHere 20 = .ok (.goto 4, 3) := by decide +kernel
theorem dX7_byteHere_23 : decode cX7_byteHere 23 = .ok (.iconst (-1), 1) := by decide +kernel
theorem dX7_byteHere_24 : decode cX7_byteHere 24 = .ok (.ireturn, 1) := by decide +kernel
theorem dX7_stopHere_0 : decode cX7_stopHere 0 = .ok (.aload_n 0, 1) := by decide +kernel
theorem dX7_stopHere_1 : decode cX7_stopHere 1 = .ok (.aload_n 0, 1) := by decide +kernel
theorem dX7_stopHere_2 : decode cX7_stopHere 2 = .ok (.getfield 26, 3) := by decide +kernel
theorem dX7_stopHere_5 : decode cX7_stopHere 5 = .ok (.putfield 29, 3) := by decide +kernel
theorem dX7_stopHere_8 : decode cX7_stopHere 8 = .ok (.iconst 0, 1) := by decide +kernel
theorem dX7_stopHere_9 : decode cX7_stopHere 9 = .ok (.ireturn, 1) := by decide +kernel
theorem dX7_isLetter_0 : decode cX7_isLetter 0 = .ok (.iload_n 0, 1) := by decide +kernel
theorem dX7_isLetter_1 : decode cX7_isLetter 1 = .ok (.bipush 97, 2) := by decide +kernel
theorem dX7_isLetter_3 : decode cX7_isLetter 3 = .ok (.if_icmp .lt 13, 3) := by decide +kernel
theorem dX7_isLetter_6 : decode cX7_isLetter 6 = .ok (.iload_n 0, 1) := by decide +kernel
theorem dX7_isLetter_7 : decode cX7_isLetter 7 = .ok (.bipush 122, 2) := by decide +kernel
theorem dX7_isLetter_9 : decode cX7_isLetter 9 = .ok (.if_icmp .gt 7, 3) := by decide +kernel
theorem dX7_isLetter_12 : decode cX7_isLetter 12 = .ok (.iconst 1, 1) := by decide +kernel
theorem dX7_isLetter_13 : decode cX7_isLetter 13 = .ok (.goto 4, 3) := by decide +kernel
theorem dX7_isLetter_16 : decode cX7_isLetter 16 = .ok (.iconst 0, 1) := by decide +kernel
theorem dX7_isLetter_17 : decode cX7_isLetter 17 = .ok (.ireturn, 1) := by decide +kernel
theorem dX7_isDigit_0 : decode cX7_isDigit 0 = .ok (.iload_n 0, 1) := by decide +kernel
theorem dX7_isDigit_1 : decode cX7_isDigit 1 = .ok (.bipush 48, 2) := by decide +kernel
theorem dX7_isDigit_3 : decode cX7_isDigit 3 = .ok (.if_icmp .lt 13, 3) := by decide +kernel
theorem dX7_isDigit_6 : decode cX7_isDigit 6 = .ok (.iload_n 0, 1) := by decide +kernel
theorem dX7_isDigit_7 : decode cX7_isDigit 7 = .ok (.bipush 57, 2) := by decide +kernel
theorem dX7_isDigit_9 : decode cX7_isDigit 9 = .ok (.if_icmp .gt 7, 3) := by decide +kernel
theorem dX7_isDigit_12 : decode cX7_isDigit 12 = .ok (.iconst 1, 1) := by decide +kernel
theorem dX7_isDigit_13 : decode cX7_isDigit 13 = .ok (.goto 4, 3) := by decide +kernel
theorem dX7_isDigit_16 : decode cX7_isDigit 16 = .ok (.iconst 0, 1) := by decide +kernel
theorem dX7_isDigit_17 : decode cX7_isDigit 17 = .ok (.ireturn, 1) := by decide +kernel
theorem dX8_init_0 : decode cX8_init 0 = .ok (.aload_n 0, 1) := by decide +kernel
theorem dX8_init_1 : decode cX8_init 1 = .ok (.invokespecial 3, 3) := by decide +kernel
theorem dX8_init_4 : decode cX8_init 4 = .ok (.aload_n 0, 1) := by decide +kernel
theorem dX8_init_5 : decode cX8_init 5 = .ok (.iconst 4, 1) := by decide +kernel
theorem dX8_init_6 : decode cX8_init 6 = .ok (.newarray .int, 2) := by decide +kernel
theorem dX8_init_8 : decode cX8_init 8 = .ok (.putfield 9, 3) := by decide +kernel
theorem dX8_init_11 : decode cX8_init 11 = .ok (.aload_n 0, 1) := by decide +kernel
theorem dX8_init_12 : decode cX8_init 12 = .ok (.iconst 4, 1) := by decide +kernel
theorem dX8_init_13 : decode cX8_init 13 = .ok (.newarray .int, 2) := by decide +kernel
theorem dX8_init_15 : decode cX8_init 15 = .ok (.putfield 15, 3) := by decide +kernel
theorem dX8_init_18 : decode cX8_init 18 = .ok (.aload_n 0, 1) := by decide +kernel
theorem dX8_init_19 : decode cX8_init 19 = .ok (.iconst 4, 1) := by decide +kernel
theorem dX8_init_20 : decode cX8_init 20 = .ok (.newarray .int, 2) := by decide +kernel
theorem dX8_init_22 : decode cX8_init 22 = .ok (.putfield 18, 3) := by decide +kernel
theorem dX8_init_25 : decode cX8_init 25 = .ok (.aload_n 0, 1) := by decide +kernel
theorem dX8_init_26 : decode cX8_init 26 = .ok (.bipush 64, 2) := by decide +kernel
theorem dX8_init_28 : decode cX8_init 28 = .ok (.newarray .int, 2) := by decide +kernel
theorem dX8_init_30 : decode cX8_init 30 = .ok (.putfield 21, 3) := by decide +kernel
theorem dX8_init_33 : decode cX8_init 33 = .ok (.return_, 1) := by decide +kernel
theorem dX8_beginAnew_0 : decode cX8_beginAnew 0 = .ok (.iconst 0, 1) := by decide +kernel
theorem dX8_beginAnew_1 : decode cX8_beginAnew 1 = .ok (.istore_n 1, 1) := by decide +kernel
theorem dX8_beginAnew_2 : decode cX8_beginAnew 2 = .ok (.iload_n 1, 1) := by decide +kernel
theorem dX8_beginAnew_3 : decode cX8_beginAnew 3 = .ok (.iconst 4, 1) := by decide +kernel
theorem dX8_beginAnew_4 : decode cX8_beginAnew 4 = .ok (.if_icmp .ge 31, 3) := by decide +kernel
theorem dX8_beginAnew_7 : decode cX8_beginAnew 7 = .ok (.aload_n 0, 1) := by decide +kernel
theorem dX8_beginAnew_8 : decode cX8_beginAnew 8 = .ok (.getfield 9, 3) := by decide +kernel
theorem dX8_beginAnew_11 : decode cX8_beginAnew 11 = .ok (.iload_n 1, 1) := by decide +kernel
theorem dX8_beginAnew_12 : decode cX8_beginAnew 12 = .ok (.bipush 100, 2) := by decide +kernel
theorem dX8_beginAnew_14 : decode cX8_beginAnew 14 = .ok (.iastore, 1) := by decide +kernel
theorem dX8_beginAnew_15 : decode cX8_beginAnew 15 = .ok (.aload_n 0, 1) := by decide +kernel
theorem dX8_beginAnew_16 : decode cX8_beginAnew 16 = .ok (.getfield 15, 3) := by decide +kernel
theorem dX8_beginAnew_19 : decode cX8_beginAnew 19 = .ok (.iload_n 1, 1) := by decide +kernel
theorem dX8_beginAnew_20 : decode cX8_beginAnew 20 = .ok (.iconst 0, 1) := by decide +kernel
theorem dX8_beginAnew_21 : decode cX8_beginAnew 21 = .ok (.iastore, 1) := by decide +kernel
theorem dX8_beginAnew_22 : decode cX8_beginAnew 22 = .ok (.aload_n 0, 1) := by decide +kernel
theorem dX8_beginAnew_23 : decode cX8_beginAnew 23 = .ok (.getfield 18, 3) := by decide +kernel
theorem dX8_beginAnew_26 : decode cX8_beginAnew 26 = .ok (.iload_n 1, 1) := by decide +kernel
theorem dX8_beginAnew_27 : decode cX8_beginAnew 27 = .ok (.iconst 0, 1) := by decide +kernel
theorem dX8_beginAnew_28 : decode cX8_beginAnew 28 = .ok (.iastore, 1) := by decide +kernel
theorem dX8_beginAnew_29 : decode cX8_beginAnew 29 = .ok (.iinc 1 1, 3) := by decide +kernel
theorem dX8_beginAnew_32 : decode cX8_beginAnew 32 = .ok (.goto (-30), 3) := by decide +kernel
theorem dX8_beginAnew_35 : decode cX8_beginAnew 35 = .ok (.iconst 0, 1) := by decide +kernel
theorem dX8_beginAnew_36 : decode cX8_beginAnew 36 = .ok (.istore_n 1, 1) := by decide +kernel
theorem dX8_beginAnew_37 : decode cX8_beginAnew 37 = .ok (.iload_n 1, 1) := by decide +kernel
theorem dX8_beginAnew_38 : decode cX8_beginAnew 38 = .ok (.bipush 64, 2) := by decide +kernel
theorem dX8_beginAnew_40 : decode cX8_beginAnew 40 = .ok (.if_icmp .ge 16, 3) := by decide +kernel
theorem dX8_beginAnew_43 : decode cX8_beginAnew 43 = .ok (.aload_n 0, 1) := by decide +kernel
theorem dX8_beginAnew_44 : decode cX8_beginAnew 44 = .ok (.getfield 21, 3) := by decide +kernel
theorem dX8_beginAnew_47 : decode cX8_beginAnew 47 = .ok (.iload_n 1, 1) := by decide +kernel
theorem dX8_beginAnew_48 : decode cX8_beginAnew 48 = .ok (.iconst 0, 1) := by decide +kernel
theorem dX8_beginAnew_49 : decode cX8_beginAnew 49 = .ok (.iastore, 1) := by decide +kernel
theorem dX8_beginAnew_50 : decode cX8_beginAnew 50 = .ok (.iinc 1 1, 3) := by decide +kernel
theorem dX8_beginAnew_53 : decode cX8_beginAnew 53 = .ok (.goto (-16), 3) := by decide +kernel
theorem dX8_beginAnew_56 : decode cX8_beginAnew 56 = .ok (.return_, 1) := by decide +kernel
theorem dX8_copyFrom_0 : decode cX8_copyFrom 0 = .ok (.aload_n 1, 1) := by decide +kernel
theorem dX8_copyFrom_1 : decode cX8_copyFrom 1 = .ok (.getfield 9, 3) := by decide +kernel
theorem dX8_copyFrom_4 : decode cX8_copyFrom 4 = .ok (.iconst 0, 1) := by decide +kernel
theorem dX8_copyFrom_5 : decode cX8_copyFrom 5 = .ok (.aload_n 0, 1) := by decide +kernel
theorem dX8_copyFrom_6 : decode cX8_copyFrom 6 = .ok (.getfield 9, 3) := by decide +kernel
theorem dX8_copyFrom_9 : decode cX8_copyFrom 9 = .ok (.iconst 0, 1) := by decide +kernel
theorem dX8_copyFrom_10 : decode cX8_copyFrom 10 = .ok (.iconst 4, 1) := by decide +kernel
theorem dX8_copyFrom_11 : decode cX8_copyFrom 11 = .ok (.invokestatic 24, 3) := by decide +kernel
theorem dX8_copyFrom_14 : decode cX8_copyFrom 14 = .ok (.aload_n 1, 1) := by decide +kernel
theorem dX8_copyFrom_15 : decode cX8_copyFrom 15 = .ok (.getfield 15, 3) := by decide +kernel
theorem dX8_copyFrom_18 : decode cX8_copyFrom 18 = .ok (.iconst 0, 1) := by decide +kernel
theorem dX8_copyFrom_19 : decode cX8_copyFrom 19 = .ok (.aload_n 0, 1) := by decide +kernel
theorem dX8_copyFrom_20 : decode cX8_copyFrom 20 = .ok (.getfield 15, 3) := by decide +kernel
theorem dX8_copyFrom_23 : decode cX8_copyFrom 23 = .ok (.iconst 0, 1) := by decide +kernel
theorem dX8_copyFrom_24 : decode cX8_copyFrom 24 = .ok (.iconst 4, 1) := by decide +kernel
theorem dX8_copyFrom_25 : decode cX8_copyFrom 25 = .ok (.invokestatic 24, 3) := by decide +kernel
theorem dX8_copyFrom_28 : decode cX8_copyFrom 28 = .ok (.aload_n 1, 1) := by decide +kernel
theorem dX8_copyFrom_29 : decode cX8_copyFrom 29 = .ok (.getfield 18, 3) := by decide +kernel
theorem dX8_copyFrom_32 : decode cX8_copyFrom 32 = .ok (.iconst 0, 1) := by decide +kernel
theorem dX8_copyFrom_33 : decode cX8_copyFrom 33 = .ok (.aload_n 0, 1) := by decide +kernel
theorem dX8_copyFrom_34 : decode cX8_copyFrom 34 = .ok (.getfield 18, 3) := by decide +kernel
theorem dX8_copyFrom_37 : decode cX8_copyFrom 37 = .ok (.iconst 0, 1) := by decide +kernel
theorem dX8_copyFrom_38 : decode cX8_copyFrom 38 = .ok (.iconst 4, 1) := by decide +kernel
theorem dX8_copyFrom_39 : decode cX8_copyFrom 39 = .ok (.invokestatic 24, 3) := by decide +kernel
theorem dX8_copyFrom_42 : decode cX8_copyFrom 42 = .ok (.aload_n 1, 1) := by decide +kernel
theorem dX8_copyFrom_43 : decode cX8_copyFrom 43 = .ok (.getfield 21, 3) := by decide +kernel
theorem dX8_copyFrom_46 : decode cX8_copyFrom 46 = .ok (.iconst 0, 1) := by decide +kernel
theorem dX8_copyFrom_47 : decode cX8_copyFrom 47 = .ok (.aload_n 0, 1) := by decide +kernel
theorem dX8_copyFrom_48 : decode cX8_copyFrom 48 = .ok (.getfield 21, 3) := by decide +kernel
theorem dX8_copyFrom_51 : decode cX8_copyFrom 51 = .ok (.iconst 0, 1) := by decide +kernel
theorem dX8_copyFrom_52 : decode cX8_copyFrom 52 = .ok (.bipush 64, 2) := by decide +kernel
theorem dX8_copyFrom_54 : decode cX8_copyFrom 54 = .ok (.invokestatic 24, 3) := by decide +kernel
theorem dX8_copyFrom_57 : decode cX8_copyFrom 57 = .ok (.return_, 1) := by decide +kernel
theorem dX8_changeBid_0 : decode cX8_changeBid 0 = .ok (.iload_n 1, 1) := by decide +kernel
theorem dX8_changeBid_1 : decode cX8_changeBid 1 = .ok (.bipush 16, 2) := by decide +kernel
theorem dX8_changeBid_3 : decode cX8_changeBid 3 = .ok (.imul, 1) := by decide +kernel
theorem dX8_changeBid_4 : decode cX8_changeBid 4 = .ok (.iload_n 2, 1) := by decide +kernel
theorem dX8_changeBid_5 : decode cX8_changeBid 5 = .ok (.iadd, 1) := by decide +kernel
theorem dX8_changeBid_6 : decode cX8_changeBid 6 = .ok (.istore 4, 2) := by decide +kernel
theorem dX8_changeBid_8 : decode cX8_changeBid 8 = .ok (.aload_n 0, 1) := by decide +kernel
theorem dX8_changeBid_9 : decode cX8_changeBid 9 = .ok (.getfield 21, 3) := by decide +kernel
theorem dX8_changeBid_12 : decode cX8_changeBid 12 = .ok (.iload 4, 2) := by decide +kernel
theorem dX8_changeBid_14 : decode cX8_changeBid 14 = .ok (.iaload, 1) := by decide +kernel
theorem dX8_changeBid_15 : decode cX8_changeBid 15 = .ok (.istore 5, 2) := by decide +kernel
theorem dX8_changeBid_17 : decode cX8_changeBid 17 = .ok (.aload_n 0, 1) := by decide +kernel
theorem dX8_changeBid_18 : decode cX8_changeBid 18 = .ok (.getfield 21, 3) := by decide +kernel
theorem dX8_changeBid_21 : decode cX8_changeBid 21 = .ok (.iload 4, 2) := by decide +kernel
theorem dX8_changeBid_23 : decode cX8_changeBid 23 = .ok (.iload_n 3, 1) := by decide +kernel
theorem dX8_changeBid_24 : decode cX8_changeBid 24 = .ok (.iastore, 1) := by decide +kernel
theorem dX8_changeBid_25 : decode cX8_changeBid 25 = .ok (.iload 5, 2) := by decide +kernel
theorem dX8_changeBid_27 : decode cX8_changeBid 27 = .ok (.ireturn, 1) := by decide +kernel
theorem dX8_countingBid_0 : decode cX8_countingBid 0 = .ok (.aload_n 0, 1) := by decide +kernel
theorem dX8_countingBid_1 : decode cX8_countingBid 1 = .ok (.getfield 21, 3) := by decide +kernel
theorem dX8_countingBid_4 : decode cX8_countingBid 4 = .ok (.iload_n 1, 1) := by decide +kernel
theorem dX8_countingBid_5 : decode cX8_countingBid 5 = .ok (.bipush 16, 2) := by decide +kernel
theorem dX8_countingBid_7 : decode cX8_countingBid 7 = .ok (.imul, 1) := by decide +kernel
theorem dX8_countingBid_8 : decode cX8_countingBid 8 = .ok (.iload_n 2, 1) := by decide +kernel
theorem dX8_countingBid_9 : decode cX8_countingBid 9 = .ok (.iadd, 1) := by decide +kernel
theorem dX8_countingBid_10 : decode cX8_countingBid 10 = .ok (.iaload, 1) := by decide +kernel
theorem dX8_countingBid_11 : decode cX8_countingBid 11 = .ok (.istore_n 3, 1) := by decide +kernel
theorem dX8_countingBid_12 : decode cX8_countingBid 12 = .ok (.iload_n 3, 1) := by decide +kernel
theorem dX8_countingBid_13 : decode cX8_countingBid 13 = .ok (.aload_n 0, 1) := by decide +kernel
theorem dX8_countingBid_14 : decode cX8_countingBid 14 = .ok (.getfield 9, 3) := by decide +kernel
theorem dX8_countingBid_17 : decode cX8_countingBid 17 = .ok (.iload_n 1, 1) := by decide +kernel
theorem dX8_countingBid_18 : decode cX8_countingBid 18 = .ok (.iaload, 1) := by decide +kernel
theorem dX8_countingBid_19 : decode cX8_countingBid 19 = .ok (.if_icmp .gt 7, 3) := by decide +kernel
theorem dX8_countingBid_22 : decode cX8_countingBid 22 = .ok (.iload_n 3, 1) := by decide +kernel
theorem dX8_countingBid_23 : decode cX8_countingBid 23 = .ok (.goto 4, 3) := by decide +kernel
theorem dX8_countingBid_26 : decode cX8_countingBid 26 = .ok (.iconst 0, 1) := by decide +kernel
theorem dX8_countingBid_27 : decode cX8_countingBid 27 = .ok (.ireturn, 1) := by decide +kernel
theorem dX9_init_0 : decode cX9_init 0 = .ok (.aload_n 0, 1) := by decide +kernel
theorem dX9_init_1 : decode cX9_init 1 = .ok (.invokespecial 1, 3) := by decide +kernel
theorem dX9_init_4 : decode cX9_init 4 = .ok (.aload_n 0, 1) := by decide +kernel
theorem dX9_init_5 : decode cX9_init 5 = .ok (.iconst 3, 1) := by decide +kernel
theorem dX9_init_6 : decode cX9_init 6 = .ok (.anewarray 9, 3) := by decide +kernel
theorem dX9_init_9 : decode cX9_init 9 = .ok (.putfield 11, 3) := by decide +kernel
theorem dX9_init_12 : decode cX9_init 12 = .ok (.iconst 0, 1) := by decide +kernel
theorem dX9_init_13 : decode cX9_init 13 = .ok (.istore_n 1, 1) := by decide +kernel
theorem dX9_init_14 : decode cX9_init 14 = .ok (.iload_n 1, 1) := by decide +kernel
theorem dX9_init_15 : decode cX9_init 15 = .ok (.iconst 3, 1) := by decide +kernel
theorem dX9_init_16 : decode cX9_init 16 = .ok (.if_icmp .ge 22, 3) := by decide +kernel
theorem dX9_init_19 : decode cX9_init 19 = .ok (.aload_n 0, 1) := by decide +kernel
theorem dX9_init_20 : decode cX9_init 20 = .ok (.getfield 11, 3) := by decide +kernel
theorem dX9_init_23 : decode cX9_init 23 = .ok (.iload_n 1, 1) := by decide +kernel
theorem dX9_init_24 : decode cX9_init 24 = .ok (.new 9, 3) := by decide +kernel
theorem dX9_init_27 : decode cX9_init 27 = .ok (.dup, 1) := by decide +kernel
theorem dX9_init_28 : decode cX9_init 28 = .ok (.invokespecial 15, 3) := by decide +kernel
theorem dX9_init_31 : decode cX9_init 31 = .ok (.aastore, 1) := by decide +kernel
theorem dX9_init_32 : decode cX9_init 32 = .ok (.iinc 1 1, 3) := by decide +kernel
theorem dX9_init_35 : decode cX9_init 35 = .ok (.goto (-21), 3) := by decide +kernel
theorem dX9_init_38 : decode cX9_init 38 = .ok (.return_, 1) := by decide +kernel
theorem dX9_save_0 : decode cX9_save 0 = .ok (.aload_n 0, 1) := by decide +kernel
theorem dX9_save_1 : decode cX9_save 1 = .ok (.getfield 16, 3) := by decide +kernel
theorem dX9_save_4 : decode cX9_save 4 = .ok (.iconst 3, 1) := by decide +kernel
theorem dX9_save_5 : decode cX9_save 5 = .ok (.if_icmp .lt 7, 3) := by decide +kernel
theorem dX9_save_8 : decode cX9_save 8 = .ok (.aload_n 0, 1) := by decide +kernel
theorem dX9_save_9 : decode cX9_save 9 = .ok (.invokevirtual 20, 3) := by decide +kernel
theorem dX9_save_12 : decode cX9_save 12 = .ok (.aload_n 0, 1) := by decide +kernel
theorem dX9_save_13 : decode cX9_save 13 = .ok (.getfield 11, 3) := by decide +kernel
theorem dX9_save_16 : decode cX9_save 16 = .ok (.aload_n 0, 1) := by decide +kernel
theorem dX9_save_17 : decode cX9_save 17 = .ok (.getfield 16, 3) := by decide +kernel
theorem dX9_save_20 : decode cX9_save 20 = .ok (.aaload, 1) := by decide +kernel
theorem dX9_save_21 : decode cX9_save 21 = .ok (.aload_n 1, 1) := by decide +kernel
theorem dX9_save_22 : decode cX9_save 22 = .ok (.invokevirtual 23, 3) := by decide +kernel
theorem dX9_save_25 : decode cX9_save 25 = .ok (.aload_n 0, 1) := by decide +kernel
theorem dX9_save_26 : decode cX9_save 26 = .ok (.dup, 1) := by decide +kernel
theorem dX9_save_27 : decode cX9_save 27 = .ok (.getfield 16, 3) := by decide +kernel
theorem dX9_save_30 : decode cX9_save 30 = .ok (.iconst 1, 1) := by decide +kernel
theorem dX9_save_31 : decode cX9_save 31 = .ok (.iadd, 1) := by decide +kernel
theorem dX9_save_32 : decode cX9_save 32 = .ok (.putfield 16, 3) := by decide +kernel
theorem dX9_save_35 : decode cX9_save 35 = .ok (.return_, 1) := by decide +kernel
theorem dX9_dropOldest_0 : decode cX9_dropOldest 0 = .ok (.aload_n 0, 1) := by decide +kernel
theorem dX9_dropOldest_1 : decode cX9_dropOldest 1 = .ok (.getfield 11, 3) := by decide +kernel
theorem dX9_dropOldest_4 : decode cX9_dropOldest 4 = .ok (.iconst 0, 1) := by decide +kernel
theorem dX9_dropOldest_5 : decode cX9_dropOldest 5 = .ok (.aaload, 1) := by decide +kernel
theorem dX9_dropOldest_6 : decode cX9_dropOldest 6 = .ok (.astore_n 1, 1) := by decide +kernel
theorem dX9_dropOldest_7 : decode cX9_dropOldest 7 = .ok (.iconst 1, 1) := by decide +kernel
theorem dX9_dropOldest_8 : decode cX9_dropOldest 8 = .ok (.istore_n 2, 1) := by decide +kernel
theorem dX9_dropOldest_9 : decode cX9_dropOldest 9 = .ok (.iload_n 2, 1) := by decide +kernel
theorem dX9_dropOldest_10 : decode cX9_dropOldest 10 = .ok (.iconst 3, 1) := by decide +kernel
theorem dX9_dropOldest_11 : decode cX9_dropOldest 11 = .ok (.if_icmp .ge 23, 3) := by decide +kernel
theorem dX9_dropOldest_14 : decode cX9_dropOldest 14 = .ok (.aload_n 0, 1) := by decide +kernel
theorem dX9_dropOldest_15 : decode cX9_dropOldest 15 = .ok (.getfield 11, 3) := by decide +kernel
theorem dX9_dropOldest_18 : decode cX9_dropOldest 18 = .ok (.iload_n 2, 1) := by decide +kernel
theorem dX9_dropOldest_19 : decode cX9_dropOldest 19 = .ok (.iconst 1, 1) := by decide +kernel
theorem dX9_dropOldest_20 : decode cX9_dropOldest 20 = .ok (.isub, 1) := by decide +kernel
theorem dX9_dropOldest_21 : decode cX9_dropOldest 21 = .ok (.aload_n 0, 1) := by decide +kernel
theorem dX9_dropOldest_22 : decode cX9_dropOldest 22 = .ok (.getfield 11, 3) := by decide +kernel
theorem dX9_dropOldest_25 : decode cX9_dropOldest 25 = .ok (.iload_n 2, 1) := by decide +kernel
theorem dX9_dropOldest_26 : decode cX9_dropOldest 26 = .ok (.aaload, 1) := by decide +kernel
theorem dX9_dropOldest_27 : decode cX9_dropOldest 27 = .ok (.aastore, 1) := by decide +kernel
theorem dX9_dropOldest_28 : decode cX9_dropOldest 28 = .ok (.iinc 2 1, 3) := by decide +kernel
theorem dX9_dropOldest_31 : decode cX9_dropOldest 31 = .ok (.goto (-22), 3) := by decide +kernel
theorem dX9_dropOldest_34 : decode cX9_dropOldest 34 = .ok (.aload_n 0, 1) := by decide +kernel
theorem dX9_dropOldest_35 : decode cX9_dropOldest 35 = .ok (.getfield 11, 3) := by decide +kernel
theorem dX9_dropOldest_38 : decode cX9_dropOldest 38 = .ok (.iconst 2, 1) := by decide +kernel
theorem dX9_dropOldest_39 : decode cX9_dropOldest 39 = .ok (.aload_n 1, 1) := by decide +kernel
theorem dX9_dropOldest_40 : decode cX9_dropOldest 40 = .ok (.aastore, 1) := by decide +kernel
theorem dX9_dropOldest_41 : decode cX9_dropOldest 41 = .ok (.aload_n 0, 1) := by decide +kernel
theorem dX9_dropOldest_42 : decode cX9_dropOldest 42 = .ok (.iconst 2, 1) := by decide +kernel
theorem dX9_dropOldest_43 : decode cX9_dropOldest 43 = .ok (.putfield 16, 3) := by decide +kernel
theorem dX9_dropOldest_46 : decode cX9_dropOldest 46 = .ok (.return_, 1) := by decide +kernel
theorem dX9_restore_0 : decode cX9_restore 0 = .ok (.aload_n 0, 1) := by decide +kernel
theorem dX9_restore_1 : decode cX9_restore 1 = .ok (.getfield 16, 3) := by decide +kernel
theorem dX9_restore_4 : decode cX9_restore 4 = .ok (.ifCond .le 26, 3) := by decide +kernel
theorem dX9_restore_7 : decode cX9_restore 7 = .ok (.aload_n 0, 1) := by decide +kernel
theorem dX9_restore_8 : decode cX9_restore 8 = .ok (.dup, 1) := by decide +kernel
theorem dX9_restore_9 : decode cX9_restore 9 = .ok (.getfield 16, 3) := by decide +kernel
theorem dX9_restore_12 : decode cX9_restore 12 = .ok (.iconst 1, 1) := by decide +kernel
theorem dX9_restore_13 : decode cX9_restore 13 = .ok (.isub, 1) := by decide +kernel
theorem dX9_restore_14 : decode cX9_restore 14 = .ok (.putfield 16, 3) := by decide +kernel
theorem dX9_restore_17 : decode cX9_restore 17 = .ok (.aload_n 1, 1) := by decide +kernel
theorem dX9_restore_18 : decode cX9_restore 18 = .ok (.aload_n 0, 1) := by decide +kernel
theorem dX9_restore_19 : decode cX9_restore 19 = .ok (.getfield 11, 3) := by decide +kernel
theorem dX9_restore_22 : decode cX9_restore 22 = .ok (.aload_n 0, 1) := by decide +kernel
theorem dX9_restore_23 : decode cX9_restore 23 = .ok (.getfield 16, 3) := by decide +kernel
theorem dX9_restore_26 : decode cX9_restore 26 = .ok (.aaload, 1) := by decide +kernel
theorem dX9_restore_27 : decode cX9_restore 27 = .ok (.invokevirtual 23, 3) := by decide +kernel
theorem dX9_restore_30 : decode cX9_restore 30 = .ok (.return_, 1) := by decide +kernel
theorem dX10_init_0 : decode cX10_init 0 = .ok (.aload_n 0, 1) := by decide +kernel
theorem dX10_init_1 : decode cX10_init 1 = .ok (.invokespecial 3, 3) := by decide +kernel
theorem dX10_init_4 : decode cX10_init 4 = .ok (.aload_n 0, 1) := by decide +kernel
theorem dX10_init_5 : decode cX10_init 5 = .ok (.bipush 8, 2) := by decide +kernel
theorem dX10_init_7 : decode cX10_init 7 = .ok (.newarray .int, 2) := by decide +kernel
theorem dX10_init_9 : decode cX10_init 9 = .ok (.putfield 9, 3) := by decide +kernel
theorem dX10_init_12 : decode cX10_init 12 = .ok (.aload_n 0, 1) := by decide +kernel
theorem dX10_init_13 : decode cX10_init 13 = .ok (.bipush 8, 2) := by decide +kernel
theorem dX10_init_15 : decode cX10_init 15 = .ok (.newarray .int, 2) := by decide +kernel
theorem dX10_init_17 : decode cX10_init 17 = .ok (.putfield 15, 3) := by decide +kernel
theorem dX10_init_20 : decode cX10_init 20 = .ok (.aload_n 0, 1) := by decide +kernel
theorem dX10_init_21 : decode cX10_init 21 = .ok (.bipush 8, 2) := by decide +kernel
theorem dX10_init_23 : decode cX10_init 23 = .ok (.newarray .int, 2) := by decide +kernel
theorem dX10_init_25 : decode cX10_init 25 = .ok (.putfield 18, 3) := by decide +kernel
theorem dX10_init_28 : decode cX10_init 28 = .ok (.aload_n 0, 1) := by decide +kernel
theorem dX10_init_29 : decode cX10_init 29 = .ok (.bipush 8, 2) := by decide +kernel
theorem dX10_init_31 : decode cX10_init 31 = .ok (.newarray .int, 2) := by decide +kernel
theorem dX10_init_33 : decode cX10_init 33 = .ok (.putfield 21, 3) := by decide +kernel
theorem dX10_init_36 : decode cX10_init 36 = .ok (.aload_n 0, 1) := by decide +kernel
theorem dX10_init_37 : decode cX10_init 37 = .ok (.bipush 8, 2) := by decide +kernel
theorem dX10_init_39 : decode cX10_init 39 = .ok (.newarray .int, 2) := by decide +kernel
theorem dX10_init_41 : decode cX10_init 41 = .ok (.putfield 24, 3) := by decide +kernel
theorem dX10_init_44 : decode cX10_init 44 = .ok (.return_, 1) := by decide +kernel
theorem dX10_renew_0 : decode cX10_renew 0 = .ok (.iconst 0, 1) := by decide +kernel
theorem dX10_renew_1 : decode cX10_renew 1 = .ok (.istore_n 2, 1) := by decide +kernel
theorem dX10_renew_2 : decode cX10_renew 2 = .ok (.iload_n 2, 1) := by decide +kernel
theorem dX10_renew_3 : decode cX10_renew 3 = .ok (.aload_n 1, 1) := by decide +kernel
theorem dX10_renew_4 : decode cX10_renew 4 = .ok (.getfield 27, 3) := by decide +kernel
theorem dX10_renew_7 : decode cX10_renew 7 = .ok (.if_icmp .ge 56, 3) := by decide +kernel
theorem dX10_renew_10 : decode cX10_renew 10 = .ok (.aload_n 0, 1) := by decide +kernel
theorem dX10_renew_11 : decode cX10_renew 11 = .ok (.getfield 24, 3) := by decide +kernel
theorem dX10_renew_14 : decode cX10_renew 14 = .ok (.iload_n 2, 1) := by decide +kernel
theorem dX10_renew_15 : decode cX10_renew 15 = .ok (.aload_n 1, 1) := by decide +kernel
theorem dX10_renew_16 : decode cX10_renew 16 = .ok (.getfield 33, 3) := by decide +kernel
theorem dX10_renew_19 : decode cX10_renew 19 = .ok (.iload_n 2, 1) := by decide +kernel
theorem dX10_renew_20 : decode cX10_renew 20 = .ok (.invokevirtual 37, 3) := by decide +kernel
theorem dX10_renew_23 : decode cX10_renew 23 = .ok (.iastore, 1) := by decide +kernel
theorem dX10_renew_24 : decode cX10_renew 24 = .ok (.aload_n 0, 1) := by decide +kernel
theorem dX10_renew_25 : decode cX10_renew 25 = .ok (.getfield 9, 3) := by decide +kernel
theorem dX10_renew_28 : decode cX10_renew 28 = .ok (.iload_n 2, 1) := by decide +kernel
theorem dX10_renew_29 : decode cX10_renew 29 = .ok (.aload_n 0, 1) := by decide +kernel
theorem dX10_renew_30 : decode cX10_renew 30 = .ok (.getfield 24, 3) := by decide +kernel
theorem dX10_renew_33 : decode cX10_renew 33 = .ok (.iload_n 2, 1) := by decide +kernel
theorem dX10_renew_34 : decode cX10_renew 34 = .ok (.iaload, 1) := by decide +kernel
theorem dX10_renew_35 : decode cX10_renew 35 = .ok (.iastore, 1) := by decide +kernel
theorem dX10_renew_36 : decode cX10_renew 36 = .ok (.aload_n 0, 1) := by decide +kernel
theorem dX10_renew_37 : decode cX10_renew 37 = .ok (.getfield 15, 3) := by decide +kernel
theorem dX10_renew_40 : decode cX10_renew 40 = .ok (.iload_n 2, 1) := by decide +kernel
theorem dX10_renew_41 : decode cX10_renew 41 = .ok (.iconst 0, 1) := by decide +kernel
theorem dX10_renew_42 : decode cX10_renew 42 = .ok (.iastore, 1) := by decide +kernel
theorem dX10_renew_43 : decode cX10_renew 43 = .ok (.aload_n 0, 1) := by decide +kernel
theorem dX10_renew_44 : decode cX10_renew 44 = .ok (.getfield 18, 3) := by decide +kernel
theorem dX10_renew_47 : decode cX10_renew 47 = .ok (.iload_n 2, 1) := by decide +kernel
theorem dX10_renew_48 : decode cX10_renew 48 = .ok (.iconst 0, 1) := by decide +kernel
theorem dX10_renew_49 : decode cX10_renew 49 = .ok (.iastore, 1) := by decide +kernel
theorem dX10_renew_50 : decode cX10_renew 50 = .ok (.aload_n 0, 1) := by decide +kernel
theorem dX10_renew_51 : decode cX10_renew 51 = .ok (.getfield 21, 3) := by decide +kernel
theorem dX10_renew_54 : decode cX10_renew 54 = .ok (.iload_n 2, 1) := by decide +kernel
theorem dX10_renew_55 : decode cX10_renew 55 = .ok (.iconst (-1), 1) := by decide +kernel
theorem dX10_renew_56 : decode cX10_renew 56 = .ok (.iastore, 1) := by decide +kernel
theorem dX10_renew_57 : decode cX10_renew 57 = .ok (.iinc 2 1, 3) := by decide +kernel
theorem dX10_renew_60 : decode cX10_renew 60 = .ok (.goto (-58), 3) := by decide +kernel
theorem dX10_renew_63 : decode cX10_renew 63 = .ok (.iconst 0, 1) := by decide +kernel
theorem dX10_renew_64 : decode cX10_renew 64 = .ok (.istore_n 2, 1) := by decide +kernel
theorem dX10_renew_65 : decode cX10_renew 65 = .ok (.iload_n 2, 1) := by decide +kernel
theorem dX10_renew_66 : decode cX10_renew 66 = .ok (.aload_n 1, 1) := by decide +kernel
theorem dX10_renew_67 : decode cX10_renew 67 = .ok (.getfield 43, 3) := by decide +kernel
theorem dX10_renew_70 : decode cX10_renew 70 = .ok (.getfield 47, 3) := by decide +kernel
theorem dX10_renew_73 : decode cX10_renew 73 = .ok (.if_icmp .ge 60, 3) := by decide +kernel
theorem dX10_renew_76 : decode cX10_renew 76 = .ok (.aload_n 1, 1) := by decide +kernel
theorem dX10_renew_77 : decode cX10_renew 77 = .ok (.getfield 43, 3) := by decide +kernel
theorem dX10_renew_80 : decode cX10_renew 80 = .ok (.getfield 52, 3) := by decide +kernel
theorem dX10_renew_83 : decode cX10_renew 83 = .ok (.iload_n 2, 1) := by decide +kernel
theorem dX10_renew_84 : decode cX10_renew 84 = .ok (.baload, 1) := by decide +kernel
theorem dX10_renew_85 : decode cX10_renew 85 = .ok (.ifCond .eq 42, 3) := by decide +kernel
theorem dX10_renew_88 : decode cX10_renew 88 = .ok (.aload_n 1, 1) := by decide +kernel
theorem dX10_renew_89 : decode cX10_renew 89 = .ok (.getfield 43, 3) := by decide +kernel
theorem dX10_renew_92 : decode cX10_renew 92 = .ok (.getfield 56, 3) := by decide +kernel
theorem dX10_renew_95 : decode cX10_renew 95 = .ok (.iload_n 2, 1) := by decide +kernel
theorem dX10_renew_96 : decode cX10_renew 96 = .ok (.iaload, 1) := by decide +kernel
theorem dX10_renew_97 : decode cX10_renew 97 = .ok (.istore_n 3, 1) := by decide +kernel
theorem dX10_renew_98 : decode cX10_renew 98 = .ok (.aload_n 1, 1) := by decide +kernel
theorem dX10_renew_99 : decode cX10_renew 99 = .ok (.getfield 43, 3) := by decide +kernel
theorem dX10_renew_102 : decode cX10_renew 102 = .ok (.getfield 59, 3) := by decide +kernel
theorem dX10_renew_105 : decode cX10_renew 105 = .ok (.iload_n 2, 1) := by decide +kernel
theorem dX10_renew_106 : decode cX10_renew 106 = .ok (.iaload, 1) := by decide +kernel
theorem dX10_renew_107 : decode cX10_renew 107 = .ok (.istore 4, 2) := by decide +kernel
theorem dX10_renew_109 : decode cX10_renew 109 = .ok (.aload_n 0, 1) := by decide +kernel
theorem dX10_renew_110 : decode cX10_renew 110 = .ok (.aload_n 1, 1) := by decide +kernel
theorem dX10_renew_111 : decode cX10_renew 111 = .ok (.iload_n 2, 1) := by decide +kernel
theorem dX10_renew_112 : decode cX10_renew 112 = .ok (.iload_n 3, 1) := by decide +kernel
theorem dX10_renew_113 : decode cX10_renew 113 = .ok (.iload 4, 2) := by decide +kernel
theorem dX10_renew_115 : decode cX10_renew 115 = .ok (.invokevirtual 62, 3) := by decide +kernel
theorem dX10_renew_118 : decode cX10_renew 118 = .ok (.aload_n 0, 1) := by decide +kernel
theorem dX10_renew_119 : decode cX10_renew 119 = .ok (.aload_n 1, 1) := by decide +kernel
theorem dX10_renew_120 : decode cX10_renew 120 = .ok (.iload_n 2, 1) := by decide +kernel
theorem dX10_renew_121 : decode cX10_renew 121 = .ok (.iload 4, 2) := by decide +kernel
theorem dX10_renew_123 : decode cX10_renew 123 = .ok (.iload_n 3, 1) := by decide +kernel
theorem dX10_renew_124 : decode cX10_renew 124 = .ok (.invokevirtual 62, 3) := by decide +kernel
theorem dX10_renew_127 : decode cX10_renew 127 = .ok (.iinc 2 1, 3) := by decide +kernel
theorem dX10_renew_130 : decode cX10_renew 130 = .ok (.goto (-65), 3) := by decide +kernel
theorem dX10_renew_133 : decode cX10_renew 133 = .ok (.aload_n 0, 1) := by decide +kernel
theorem dX10_renew_134 : decode cX10_renew 134 = .ok (.getfield 9, 3) := by decide +kernel
theorem dX10_renew_137 : decode cX10_renew 137 = .ok (.iconst 0, 1) := by decide +kernel
theorem dX10_renew_138 : decode cX10_renew 138 = .ok (.aload_n 1, 1) := by decide +kernel
theorem dX10_renew_139 : decode cX10_renew 139 = .ok (.getfield 33, 3) := by decide +kernel
theorem dX10_renew_142 : decode cX10_renew 142 = .ok (.getfield 66, 3) := by decide +kernel
theorem dX10_renew_145 : decode cX10_renew 145 = .ok (.iconst 0, 1) := by decide +kernel
theorem dX10_renew_146 : decode cX10_renew 146 = .ok (.aload_n 1, 1) := by decide +kernel
theorem dX10_renew_147 : decode cX10_renew 147 = .ok (.getfield 27, 3) := by decide +kernel
theorem dX10_renew_150 : decode cX10_renew 150 = .ok (.invokestatic 67, 3) := by decide +kernel
theorem dX10_renew_153 : decode cX10_renew 153 = .ok (.aload_n 0, 1) := by decide +kernel
theorem dX10_renew_154 : decode cX10_renew 154 = .ok (.getfield 15, 3) := by decide +kernel
theorem dX10_renew_157 : decode cX10_renew 157 = .ok (.iconst 0, 1) := by decide +kernel
theorem dX10_renew_158 : decode cX10_renew 158 = .ok (.aload_n 1, 1) := by decide +kernel
theorem dX10_renew_159 : decode cX10_renew 159 = .ok (.getfield 33, 3) := by decide +kernel
theorem dX10_renew_162 : decode cX10_renew 162 = .ok (.getfield 73, 3) := by decide +kernel
theorem dX10_renew_165 : decode cX10_renew 165 = .ok (.iconst 0, 1) := by decide +kernel
theorem dX10_renew_166 : decode cX10_renew 166 = .ok (.aload_n 1, 1) := by decide +kernel
theorem dX10_renew_167 : decode cX10_renew 167 = .ok (.getfield 27, 3) := by decide +kernel
theorem dX10_renew_170 : decode cX10_renew 170 = .ok (.invokestatic 67, 3) := by decide +kernel
theorem dX10_renew_173 : decode cX10_renew 173 = .ok (.aload_n 0, 1) := by decide +kernel
theorem dX10_renew_174 : decode cX10_renew 174 = .ok (.getfield 18, 3) := by decide +kernel
theorem dX10_renew_177 : decode cX10_renew 177 = .ok (.iconst 0, 1) := by decide +kernel
theorem dX10_renew_178 : decode cX10_renew 178 = .ok (.aload_n 1, 1) := by decide +kernel
theorem dX10_renew_179 : decode cX10_renew 179 = .ok (.getfield 33, 3) := by decide +kernel
theorem dX10_renew_182 : decode cX10_renew 182 = .ok (.getfield 74, 3) := by decide +kernel
theorem dX10_renew_185 : decode cX10_renew 185 = .ok (.iconst 0, 1) := by decide +kernel
theorem dX10_renew_186 : decode cX10_renew 186 = .ok (.aload_n 1, 1) := by decide +kernel
theorem dX10_renew_187 : decode cX10_renew 187 = .ok (.getfield 27, 3) := by decide +kernel
theorem dX10_renew_190 : decode cX10_renew 190 = .ok (.invokestatic 67, 3) := by decide +kernel
theorem dX10_renew_193 : decode cX10_renew 193 = .ok (.aload_n 0, 1) := by decide +kernel
theorem dX10_renew_194 : decode cX10_renew 194 = .ok (.getfield 21, 3) := by decide +kernel
theorem dX10_renew_197 : decode cX10_renew 197 = .ok (.iconst 0, 1) := by decide +kernel
theorem dX10_renew_198 : decode cX10_renew 198 = .ok (.aload_n 1, 1) := by decide +kernel
theorem dX10_renew_199 : decode cX10_renew 199 = .ok (.getfield 33, 3) := by decide +kernel
theorem dX10_renew_202 : decode cX10_renew 202 = .ok (.getfield 75, 3) := by decide +kernel
theorem dX10_renew_205 : decode cX10_renew 205 = .ok (.iconst 0, 1) := by decide +kernel
theorem dX10_renew_206 : decode cX10_renew 206 = .ok (.aload_n 1, 1) := by decide +kernel
theorem dX10_renew_207 : decode cX10_renew 207 = .ok (.getfield 27, 3) := by decide +kernel
theorem dX10_renew_210 : decode cX10_renew 210 = .ok (.invokestatic 67, 3) := by decide +kernel
theorem dX10_renew_213 : decode cX10_renew 213 = .ok (.return_, 1) := by decide +kernel
theorem dX10_consider_0 : decode cX10_consider 0 = .ok (.aload_n 1, 1) := by decide +kernel
theorem dX10_consider_1 : decode cX10_consider 1 = .ok (.getfield 33, 3) := by decide +kernel
theorem dX10_consider_4 : decode cX10_consider 4 = .ok (.getfield 66, 3) := by decide +kernel
theorem dX10_consider_7 : decode cX10_consider 7 = .ok (.iload 4, 2) := by decide +kernel
theorem dX10_consider_9 : decode cX10_consider 9 = .ok (.iaload, 1) := by decide +kernel
theorem dX10_consider_10 : decode cX10_consider 10 = .ok (.istore 5, 2) := by decide +kernel
theorem dX10_consider_12 : decode cX10_consider 12 = .ok (.aload_n 1, 1) := by decide +kernel
theorem dX10_consider_13 : decode cX10_consider 13 = .ok (.getfield 33, 3) := by decide +kernel
theorem dX10_consider_16 : decode cX10_consider 16 = .ok (.getfield 73, 3) := by decide +kernel
theorem dX10_consider_19 : decode cX10_consider 19 = .ok (.iload 4, 2) := by decide +kernel
theorem dX10_consider_21 : decode cX10_consider 21 = .ok (.iaload, 1) := by decide +kernel
theorem dX10_consider_22 : decode cX10_consider 22 = .ok (.aload_n 1, 1) := by decide +kernel
theorem dX10_consider_23 : decode cX10_consider 23 = .ok (.getfield 43, 3) := by decide +kernel
theorem dX10_consider_26 : decode cX10_consider 26 = .ok (.getfield 76, 3) := by decide +kernel
theorem dX10_consider_29 : decode cX10_consider 29 = .ok (.iload_n 2, 1) := by decide +kernel
theorem dX10_consider_30 : decode cX10_consider 30 = .ok (.iaload, 1) := by decide +kernel
theorem dX10_consider_31 : decode cX10_consider 31 = .ok (.iadd, 1) := by decide +kernel
theorem dX10_consider_32 : decode cX10_consider 32 = .ok (.istore 6, 2) := by decide +kernel
theorem dX10_consider_34 : decode cX10_consider 34 = .ok (.aload_n 1, 1) := by decide +kernel
theorem dX10_consider_35 : decode cX10_consider 35 = .ok (.getfield 33, 3) := by decide +kernel
theorem dX10_consider_38 : decode cX10_consider 38 = .ok (.iload 4, 2) := by decide +kernel
theorem dX10_consider_40 : decode cX10_consider 40 = .ok (.invokevirtual 37, 3) := by decide +kernel
theorem dX10_consider_43 : decode cX10_consider 43 = .ok (.istore 7, 2) := by decide +kernel
theorem dX10_consider_45 : decode cX10_consider 45 = .ok (.aload_n 1, 1) := by decide +kernel
theorem dX10_consider_46 : decode cX10_consider 46 = .ok (.getfield 33, 3) := by decide +kernel
theorem dX10_consider_49 : decode cX10_consider 49 = .ok (.getfield 74, 3) := by decide +kernel
theorem dX10_consider_52 : decode cX10_consider 52 = .ok (.iload 4, 2) := by decide +kernel
theorem dX10_consider_54 : decode cX10_consider 54 = .ok (.iaload, 1) := by decide +kernel
theorem dX10_consider_55 : decode cX10_consider 55 = .ok (.bipush 10, 2) := by decide +kernel
theorem dX10_consider_57 : decode cX10_consider 57 = .ok (.if_icmp .ge 66, 3) := by decide +kernel
theorem dX10_consider_60 : decode cX10_consider 60 = .ok (.aload_n 0, 1) := by decide +kernel
theorem dX10_consider_61 : decode cX10_consider 61 = .ok (.iload_n 3, 1) := by decide +kernel
theorem dX10_consider_62 : decode cX10_consider 62 = .ok (.iload 5, 2) := by decide +kernel
theorem dX10_consider_64 : decode cX10_consider 64 = .ok (.iload 6, 2) := by decide +kernel
theorem dX10_consider_66 : decode cX10_consider 66 = .ok (.iload 7, 2) := by decide +kernel
theorem dX10_consider_68 : decode cX10_consider 68 = .ok (.invokevirtual 77, 3) := by decide +kernel
theorem dX10_consider_71 : decode cX10_consider 71 = .ok (.ifCond .eq 52, 3) := by decide +kernel
theorem dX10_consider_74 : decode cX10_consider 74 = .ok (.aload_n 0, 1) := by decide +kernel
theorem dX10_consider_75 : decode cX10_consider 75 = .ok (.getfield 24, 3) := by decide +kernel
theorem dX10_consider_78 : decode cX10_consider 78 = .ok (.iload_n 3, 1) := by decide +kernel
theorem dX10_consider_79 : decode cX10_consider 79 = .ok (.iload 7, 2) := by decide +kernel
theorem dX10_consider_81 : decode cX10_consider 81 = .ok (.iastore, 1) := by decide +kernel
theorem dX10_consider_82 : decode cX10_consider 82 = .ok (.aload_n 0, 1) := by decide +kernel
theorem dX10_consider_83 : decode cX10_consider 83 = .ok (.getfield 9, 3) := by decide +kernel
theorem dX10_consider_86 : decode cX10_consider 86 = .ok (.iload_n 3, 1) := by decide +kernel
theorem dX10_consider_87 : decode cX10_consider 87 = .ok (.iload 5, 2) := by decide +kernel
theorem dX10_consider_89 : decode cX10_consider 89 = .ok (.iastore, 1) := by decide +kernel
theorem dX10_consider_90 : decode cX10_consider 90 = .ok (.aload_n 0, 1) := by decide +kernel
theorem dX10_consider_91 : decode cX10_consider 91 = .ok (.getfield 15, 3) := by decide +kernel
theorem dX10_consider_94 : decode cX10_consider 94 = .ok (.iload_n 3, 1) := by decide +kernel
theorem dX10_consider_95 : decode cX10_consider 95 = .ok (.iload 6, 2) := by decide +kernel
theorem dX10_consider_97 : decode cX10_consider 97 = .ok (.iastore, 1) := by decide +kernel
theorem dX10_consider_98 : decode cX10_consider 98 = .ok (.aload_n 0, 1) := by decide +kernel
theorem dX10_consider_99 : decode cX10_consider 99 = .ok (.getfield 18, 3) := by decide +kernel
theorem dX10_consider_102 : decode cX10_consider 102 = .ok (.iload_n 3, 1) := by decide +kernel
theorem dX10_consider_103 : decode cX10_consider 103 = .ok (.aload_n 1, 1) := by decide +kernel
theorem dX10_consider_104 : decode cX10_consider 104 = .ok (.getfield 33, 3) := by decide +kernel
theorem dX10_consider_107 : decode cX10_consider 107 = .ok (.getfield 74, 3) := by decide +kernel
theorem dX10_consider_110 : decode cX10_consider 110 = .ok (.iload 4, 2) := by decide +kernel
theorem dX10_consider_112 : decode cX10_consider 112 = .ok (.iaload, 1) := by decide +kernel
theorem dX10_consider_113 : decode cX10_consider 113 = .ok (.iconst 1, 1) := by decide +kernel
theorem dX10_consider_114 : decode cX10_consider 114 = .ok (.iadd, 1) := by decide +kernel
theorem dX10_consider_115 : decode cX10_consider 115 = .ok (.iastore, 1) := by decide +kernel
theorem dX10_consider_116 : decode cX10_consider 116 = .ok (.aload_n 0, 1) := by decide +kernel
theorem dX10_consider_117 : decode cX10_consider 117 = .ok (.getfield 21, 3) := by decide +kernel
theorem dX10_consider_120 : decode cX10_consider 120 = .ok (.iload_n 3, 1) := by decide +kernel
theorem dX10_consider_121 : decode cX10_consider 121 = .ok (.iload_n 2, 1) := by decide +kernel
theorem dX10_consider_122 : decode cX10_consider 122 = .ok (.iastore, 1) := by decide +kernel
theorem dX10_consider_123 : decode cX10_consider 123 = .ok (.return_, 1) := by decide +kernel
theorem dX10_isBetter_0 : decode cX10_isBetter 0 = .ok (.iload_n 2, 1) := by decide +kernel
theorem dX10_isBetter_1 : decode cX10_isBetter 1 = .ok (.aload_n 0, 1) := by decide +kernel
theorem dX10_isBetter_2 : decode cX10_isBetter 2 = .ok (.getfield 9, 3) := by decide +kernel
theorem dX10_isBetter_5 : decode cX10_isBetter 5 = .ok (.iload_n 1, 1) := by decide +kernel
theorem dX10_isBetter_6 : decode cX10_isBetter 6 = .ok (.iaload, 1) := by decide +kernel
theorem dX10_isBetter_7 : decode cX10_isBetter 7 = .ok (.if_icmp .eq 19, 3) := by decide +kernel
theorem dX10_isBetter_10 : decode cX10_isBetter 10 = .ok (.iload_n 2, 1) := by decide +kernel
theorem dX10_isBetter_11 : decode cX10_isBetter 11 = .ok (.aload_n 0, 1) := by decide +kernel
theorem dX10_isBetter_12 : decode cX10_isBetter 12 = .ok (.getfield 9, 3) := by decide +kernel
theorem dX10_isBetter_15 : decode cX10_isBetter 15 = .ok (.iload_n 1, 1) := by decide +kernel
theorem dX10_isBetter_16 : decode cX10_isBetter 16 = .ok (.iaload, 1) := by decide +kernel
theorem dX10_isBetter_17 : decode cX10_isBetter 17 = .ok (.if_icmp .ge 7, 3) := by decide +kernel
theorem dX10_isBetter_20 : decode cX10_isBetter 20 = .ok (.iconst 1, 1) := by decide +kernel
theorem dX10_isBetter_21 : decode cX10_isBetter 21 = .ok (.goto 4, 3) := by decide +kernel
theorem dX10_isBetter_24 : decode cX10_isBetter 24 = .ok (.iconst 0, 1) := by decide +kernel
theorem dX10_isBetter_25 : decode cX10_isBetter 25 = .ok (.ireturn, 1) := by decide +kernel
theorem dX10_isBetter_26 : decode cX10_isBetter 26 = .ok (.iload_n 3, 1) := by decide +kernel
theorem dX10_isBetter_27 : decode cX10_isBetter 27 = .ok (.aload_n 0, 1) := by decide +kernel
theorem dX10_isBetter_28 : decode cX10_isBetter 28 = .ok (.getfield 15, 3) := by decide +kernel
theorem dX10_isBetter_31 : decode cX10_isBetter 31 = .ok (.iload_n 1, 1) := by decide +kernel
theorem dX10_isBetter_32 : decode cX10_isBetter 32 = .ok (.iaload, 1) := by decide +kernel
theorem dX10_isBetter_33 : decode cX10_isBetter 33 = .ok (.if_icmp .eq 19, 3) := by decide +kernel
theorem dX10_isBetter_36 : decode cX10_isBetter 36 = .ok (.iload_n 3, 1) := by decide +kernel
theorem dX10_isBetter_37 : decode cX10_isBetter 37 = .ok (.aload_n 0, 1) := by decide +kernel
theorem dX10_isBetter_38 : decode cX10_isBetter 38 = .ok (.getfield 15, 3) := by decide +kernel
theorem dX10_isBetter_41 : decode cX10_isBetter 41 = .ok (.iload_n 1, 1) := by decide +kernel
theorem dX10_isBetter_42 : decode cX10_isBetter 42 = .ok (.iaload, 1) := by decide +kernel
theorem dX10_isBetter_43 : decode cX10_isBetter 43 = .ok (.if_icmp .ge 7, 3) := by decide +kernel
theorem dX10_isBetter_46 : decode cX10_isBetter 46 = .ok (.iconst 1, 1) := by decide +kernel
theorem dX10_isBetter_47 : decode cX10_isBetter 47 = .ok (.goto 4, 3) := by decide +kernel
theorem dX10_isBetter_50 : decode cX10_isBetter 50 = .ok (.iconst 0, 1) := by decide +kernel
theorem dX10_isBetter_51 : decode cX10_isBetter 51 = .ok (.ireturn, 1) := by decide +kernel
theorem dX10_isBetter_52 : decode cX10_isBetter 52 = .ok (.iload 4, 2) := by decide +kernel
theorem dX10_isBetter_54 : decode cX10_isBetter 54 = .ok (.aload_n 0, 1) := by decide +kernel
theorem dX10_isBetter_55 : decode cX10_isBetter 55 = .ok (.getfield 24, 3) := by decide +kernel
theorem dX10_isBetter_58 : decode cX10_isBetter 58 = .ok (.iload_n 1, 1) := by decide +kernel
theorem dX10_isBetter_59 : decode cX10_isBetter 59 = .ok (.iaload, 1) := by decide +kernel
theorem dX10_isBetter_60 : decode cX10_isBetter 60 = .ok (.if_icmp .ge 7, 3) := by decide +kernel
theorem dX10_isBetter_63 : decode cX10_isBetter 63 = .ok (.iconst 1, 1) := by decide +kernel
theorem dX10_isBetter_64 : decode cX10_isBetter 64 = .ok (.goto 4, 3) := by decide +kernel
theorem dX10_isBetter_67 : decode cX10_isBetter 67 = .ok (.iconst 0, 1) := by decide +kernel
theorem dX10_isBetter_68 : decode cX10_isBetter 68 = .ok (.ireturn, 1) := by decide +kernel
theorem dX11_init_0 : decode cX11_init 0 = .ok (.aload_n 0, 1) := by decide +kernel
theorem dX11_init_1 : decode cX11_init 1 = .ok (.invokespecial 3, 3) := by decide +kernel
theorem dX11_init_4 : decode cX11_init 4 = .ok (.aload_n 0, 1) := by decide +kernel
theorem dX11_init_5 : decode cX11_init 5 = .ok (.new 9, 3) := by decide +kernel
theorem dX11_init_8 : decode cX11_init 8 = .ok (.dup, 1) := by decide +kernel
theorem dX11_init_9 : decode cX11_init 9 = .ok (.invokespecial 11, 3) := by decide +kernel
theorem dX11_init_12 : decode cX11_init 12 = .ok (.putfield 12, 3) := by decide +kernel
theorem dX11_init_15 : decode cX11_init 15 = .ok (.aload_n 0, 1) := by decide +kernel
theorem dX11_init_16 : decode cX11_init 16 = .ok (.getfield 12, 3) := by decide +kernel
theorem dX11_init_19 : decode cX11_init 19 = .ok (.iconst 4, 1) := by decide +kernel
theorem dX11_init_20 : decode cX11_init 20 = .ok (.invokevirtual 16, 3) := by decide +kernel
theorem dX11_init_23 : decode cX11_init 23 = .ok (.aload_n 0, 1) := by decide +kernel
theorem dX11_init_24 : decode cX11_init 24 = .ok (.new 20, 3) := by decide +kernel
theorem dX11_init_27 : decode cX11_init 27 = .ok (.dup, 1) := by decide +kernel
theorem dX11_init_28 : decode cX11_init 28 = .ok (.invokespecial 22, 3) := by decide +kernel
theorem dX11_init_31 : decode cX11_init 31 = .ok (.putfield 23, 3) := by decide +kernel
theorem dX11_init_34 : decode cX11_init 34 = .ok (.aload_n 0, 1) := by decide +kernel
theorem dX11_init_35 : decode cX11_init 35 = .ok (.new 27, 3) := by decide +kernel
theorem dX11_init_38 : decode cX11_init 38 = .ok (.dup, 1) := by decide +kernel
theorem dX11_init_39 : decode cX11_init 39 = .ok (.invokespecial 29, 3) := by decide +kernel
theorem dX11_init_42 : decode cX11_init 42 = .ok (.putfield 30, 3) := by decide +kernel
theorem dX11_init_45 : decode cX11_init 45 = .ok (.aload_n 0, 1) := by decide +kernel
theorem dX11_init_46 : decode cX11_init 46 = .ok (.new 34, 3) := by decide +kernel
theorem dX11_init_49 : decode cX11_init 49 = .ok (.dup, 1) := by decide +kernel
theorem dX11_init_50 : decode cX11_init 50 = .ok (.invokespecial 36, 3) := by decide +kernel
theorem dX11_init_53 : decode cX11_init 53 = .ok (.putfield 37, 3) := by decide +kernel
theorem dX11_init_56 : decode cX11_init 56 = .ok (.aload_n 0, 1) := by decide +kernel
theorem dX11_init_57 : decode cX11_init 57 = .ok (.new 41, 3) := by decide +kernel
theorem dX11_init_60 : decode cX11_init 60 = .ok (.dup, 1) := by decide +kernel
theorem dX11_init_61 : decode cX11_init 61 = .ok (.invokespecial 43, 3) := by decide +kernel
theorem dX11_init_64 : decode cX11_init 64 = .ok (.putfield 44, 3) := by decide +kernel
theorem dX11_init_67 : decode cX11_init 67 = .ok (.aload_n 0, 1) := by decide +kernel
theorem dX11_init_68 : decode cX11_init 68 = .ok (.new 48, 3) := by decide +kernel
theorem dX11_init_71 : decode cX11_init 71 = .ok (.dup, 1) := by decide +kernel
theorem dX11_init_72 : decode cX11_init 72 = .ok (.invokespecial 50, 3) := by decide +kernel
theorem dX11_init_75 : decode cX11_init 75 = .ok (.putfield 51, 3) := by decide +kernel
theorem dX11_init_78 : decode cX11_init 78 = .ok (.aload_n 0, 1) := by decide +kernel
theorem dX11_init_79 : decode cX11_init 79 = .ok (.new 55, 3) := by decide +kernel
theorem dX11_init_82 : decode cX11_init 82 = .ok (.dup, 1) := by decide +kernel
theorem dX11_init_83 : decode cX11_init 83 = .ok (.invokespecial 57, 3) := by decide +kernel
theorem dX11_init_86 : decode cX11_init 86 = .ok (.putfield 58, 3) := by decide +kernel
theorem dX11_init_89 : decode cX11_init 89 = .ok (.return_, 1) := by decide +kernel
theorem dX11_setBridges_0 : decode cX11_setBridges 0 = .ok (.iload_n 1, 1) := by decide +kernel
theorem dX11_setBridges_1 : decode cX11_setBridges 1 = .ok (.iconst 2, 1) := by decide +kernel
theorem dX11_setBridges_2 : decode cX11_setBridges 2 = .ok (.bipush 8, 2) := by decide +kernel
theorem dX11_setBridges_4 : decode cX11_setBridges 4 = .ok (.invokestatic 62, 3) := by decide +kernel
theorem dX11_setBridges_7 : decode cX11_setBridges 7 = .ok (.ifCond .eq 13, 3) := by decide +kernel
theorem dX11_setBridges_10 : decode cX11_setBridges 10 = .ok (.new 66, 3) := by decide +kernel
theorem dX11_setBridges_13 : decode cX11_setBridges 13 = .ok (.dup, 1) := by decide +kernel
theorem dX11_setBridges_14 : decode cX11_setBridges 14 = .ok (.ldc 68, 2) := by decide +kernel
theorem dX11_setBridges_16 : decode cX11_setBridges 16 = .ok (.invokespecial 70, 3) := by decide +kernel
theorem dX11_setBridges_19 : decode cX11_setBridges 19 = .ok (.athrow, 1) := by decide +kernel
theorem dX11_setBridges_20 : decode cX11_setBridges 20 = .ok (.aload_n 0, 1) := by decide +kernel
theorem dX11_setBridges_21 : decode cX11_setBridges 21 = .ok (.getfield 23, 3) := by decide +kernel
theorem dX11_setBridges_24 : decode cX11_setBridges 24 = .ok (.aload_n 0, 1) := by decide +kernel
theorem dX11_setBridges_25 : decode cX11_setBridges 25 = .ok (.getfield 12, 3) := by decide +kernel
theorem dX11_setBridges_28 : decode cX11_setBridges 28 = .ok (.invokevirtual 73, 3) := by decide +kernel
theorem dX11_setBridges_31 : decode cX11_setBridges 31 = .ok (.aload_n 0, 1) := by decide +kernel
theorem dX11_setBridges_32 : decode cX11_setBridges 32 = .ok (.getfield 12, 3) := by decide +kernel
theorem dX11_setBridges_35 : decode cX11_setBridges 35 = .ok (.getfield 77, 3) := by decide +kernel
theorem dX11_setBridges_38 : decode cX11_setBridges 38 = .ok (.istore_n 2, 1) := by decide +kernel
theorem dX11_setBridges_39 : decode cX11_setBridges 39 = .ok (.aload_n 0, 1) := by decide +kernel
theorem dX11_setBridges_40 : decode cX11_setBridges 40 = .ok (.getfield 12, 3) := by decide +kernel
theorem dX11_setBridges_43 : decode cX11_setBridges 43 = .ok (.iload_n 1, 1) := by decide +kernel
theorem dX11_setBridges_44 : decode cX11_setBridges 44 = .ok (.invokevirtual 16, 3) := by decide +kernel
theorem dX11_setBridges_47 : decode cX11_setBridges 47 = .ok (.iload_n 2, 1) := by decide +kernel
theorem dX11_setBridges_48 : decode cX11_setBridges 48 = .ok (.ireturn, 1) := by decide +kernel
theorem dX11_setTimes_0 : decode cX11_setTimes 0 = .ok (.iload_n 1, 1) := by decide +kernel
theorem dX11_setTimes_1 : decode cX11_setTimes 1 = .ok (.iconst 1, 1) := by decide +kernel
theorem dX11_setTimes_2 : decode cX11_setTimes 2 = .ok (.bipush 20, 2) := by decide +kernel
theorem dX11_setTimes_4 : decode cX11_setTimes 4 = .ok (.invokestatic 62, 3) := by decide +kernel
theorem dX11_setTimes_7 : decode cX11_setTimes 7 = .ok (.ifCond .ne 23, 3) := by decide +kernel
theorem dX11_setTimes_10 : decode cX11_setTimes 10 = .ok (.iload_n 2, 1) := by decide +kernel
theorem dX11_setTimes_11 : decode cX11_setTimes 11 = .ok (.iconst 5, 1) := by decide +kernel
theorem dX11_setTimes_12 : decode cX11_setTimes 12 = .ok (.bipush 100, 2) := by decide +kernel
theorem dX11_setTimes_14 : decode cX11_setTimes 14 = .ok (.invokestatic 62, 3) := by decide +kernel
theorem dX11_setTimes_17 : decode cX11_setTimes 17 = .ok (.ifCond .ne 13, 3) := by decide +kernel
theorem dX11_setTimes_20 : decode cX11_setTimes 20 = .ok (.iload_n 3, 1) := by decide +kernel
theorem dX11_setTimes_21 : decode cX11_setTimes 21 = .ok (.iconst 0, 1) := by decide +kernel
theorem dX11_setTimes_22 : decode cX11_setTimes 22 = .ok (.bipush 100, 2) := by decide +kernel
theorem dX11_setTimes_24 : decode cX11_setTimes 24 = .ok (.invokestatic 62, 3) := by decide +kernel
theorem dX11_setTimes_27 : decode cX11_setTimes 27 = .ok (.ifCond .eq 13, 3) := by decide +kernel
theorem dX11_setTimes_30 : decode cX11_setTimes 30 = .ok (.new 66, 3) := by decide +kernel
theorem dX11_setTimes_33 : decode cX11_setTimes 33 = .ok (.dup, 1) := by decide +kernel
theorem dX11_setTimes_34 : decode cX11_setTimes 34 = .ok (.ldc 81, 2) := by decide +kernel
theorem dX11_setTimes_36 : decode cX11_setTimes 36 = .ok (.invokespecial 70, 3) := by decide +kernel
theorem dX11_setTimes_39 : decode cX11_setTimes 39 = .ok (.athrow, 1) := by decide +kernel
theorem dX11_setTimes_40 : decode cX11_setTimes 40 = .ok (.aload_n 0, 1) := by decide +kernel
theorem dX11_setTimes_41 : decode cX11_setTimes 41 = .ok (.getfield 23, 3) := by decide +kernel
theorem dX11_setTimes_44 : decode cX11_setTimes 44 = .ok (.aload_n 0, 1) := by decide +kernel
theorem dX11_setTimes_45 : decode cX11_setTimes 45 = .ok (.getfield 12, 3) := by decide +kernel
theorem dX11_setTimes_48 : decode cX11_setTimes 48 = .ok (.invokevirtual 73, 3) := by decide +kernel
theorem dX11_setTimes_51 : decode cX11_setTimes 51 = .ok (.aload_n 0, 1) := by decide +kernel
theorem dX11_setTimes_52 : decode cX11_setTimes 52 = .ok (.getfield 12, 3) := by decide +kernel
theorem dX11_setTimes_55 : decode cX11_setTimes 55 = .ok (.getfield 83, 3) := by decide +kernel
theorem dX11_setTimes_58 : decode cX11_setTimes 58 = .ok (.istore 4, 2) := by decide +kernel
theorem dX11_setTimes_60 : decode cX11_setTimes 60 = .ok (.aload_n 0, 1) := by decide +kernel
theorem dX11_setTimes_61 : decode cX11_setTimes 61 = .ok (.getfield 12, 3) := by decide +kernel
theorem dX11_setTimes_64 : decode cX11_setTimes 64 = .ok (.iload_n 1, 1) := by decide +kernel
theorem dX11_setTimes_65 : decode cX11_setTimes 65 = .ok (.putfield 86, 3) := by decide +kernel
theorem dX11_setTimes_68 : decode cX11_setTimes 68 = .ok (.aload_n 0, 1) := by decide +kernel
theorem dX11_setTimes_69 : decode cX11_setTimes 69 = .ok (.getfield 12, 3) := by decide +kernel
theorem dX11_setTimes_72 : decode cX11_setTimes 72 = .ok (.iload_n 2, 1) := by decide +kernel
theorem dX11_setTimes_73 : decode cX11_setTimes 73 = .ok (.putfield 83, 3) := by decide +kernel
theorem dX11_setTimes_76 : decode cX11_setTimes 76 = .ok (.aload_n 0, 1) := by decide +kernel
theorem dX11_setTimes_77 : decode cX11_setTimes 77 = .ok (.getfield 12, 3) := by decide +kernel
theorem dX11_setTimes_80 : decode cX11_setTimes 80 = .ok (.iload_n 3, 1) := by decide +kernel
theorem dX11_setTimes_81 : decode cX11_setTimes 81 = .ok (.putfield 89, 3) := by decide +kernel
theorem dX11_setTimes_84 : decode cX11_setTimes 84 = .ok (.iload 4, 2) := by decide +kernel
theorem dX11_setTimes_86 : decode cX11_setTimes 86 = .ok (.ireturn, 1) := by decide +kernel
theorem dX11_setPriority_0 : decode cX11_setPriority 0 = .ok (.aload_n 0, 1) := by decide +kernel
theorem dX11_setPriority_1 : decode cX11_setPriority 1 = .ok (.getfield 12, 3) := by decide +kernel
theorem dX11_setPriority_4 : decode cX11_setPriority 4 = .ok (.iload_n 1, 1) := by decide +kernel
theorem dX11_setPriority_5 : decode cX11_setPriority 5 = .ok (.iload_n 2, 1) := by decide +kernel
theorem dX11_setPriority_6 : decode cX11_setPriority 6 = .ok (.invokevirtual 92, 3) := by decide +kernel
theorem dX11_setPriority_9 : decode cX11_setPriority 9 = .ok (.invokestatic 96, 3) := by decide +kernel
theorem dX11_setPriority_12 : decode cX11_setPriority 12 = .ok (.aload_n 0, 1) := by decide +kernel
theorem dX11_setPriority_13 : decode cX11_setPriority 13 = .ok (.getfield 23, 3) := by decide +kernel
theorem dX11_setPriority_16 : decode cX11_setPriority 16 = .ok (.aload_n 0, 1) := by decide +kernel
theorem dX11_setPriority_17 : decode cX11_setPriority 17 = .ok (.getfield 12, 3) := by decide +kernel
theorem dX11_setPriority_20 : decode cX11_setPriority 20 = .ok (.invokevirtual 73, 3) := by decide +kernel
theorem dX11_setPriority_23 : decode cX11_setPriority 23 = .ok (.aload_n 0, 1) := by decide +kernel
theorem dX11_setPriority_24 : decode cX11_setPriority 24 = .ok (.getfield 12, 3) := by decide +kernel
theorem dX11_setPriority_27 : decode cX11_setPriority 27 = .ok (.getfield 99, 3) := by decide +kernel
theorem dX11_setPriority_30 : decode cX11_setPriority 30 = .ok (.iload_n 1, 1) := by decide +kernel
theorem dX11_setPriority_31 : decode cX11_setPriority 31 = .ok (.iload_n 2, 1) := by decide +kernel
theorem dX11_setPriority_32 : decode cX11_setPriority 32 = .ok (.invokevirtual 103, 3) := by decide +kernel
theorem dX11_setPriority_35 : decode cX11_setPriority 35 = .ok (.ireturn, 1) := by decide +kernel
theorem dX11_addLink_0 : decode cX11_addLink 0 = .ok (.aload_n 0, 1) := by decide +kernel
theorem dX11_addLink_1 : decode cX11_addLink 1 = .ok (.getfield 12, 3) := by decide +kernel
theorem dX11_addLink_4 : decode cX11_addLink 4 = .ok (.iload_n 1, 1) := by decide +kernel
theorem dX11_addLink_5 : decode cX11_addLink 5 = .ok (.iload_n 2, 1) := by decide +kernel
theorem dX11_addLink_6 : decode cX11_addLink 6 = .ok (.iload_n 3, 1) := by decide +kernel
theorem dX11_addLink_7 : decode cX11_addLink 7 = .ok (.invokevirtual 108, 3) := by decide +kernel
theorem dX11_addLink_10 : decode cX11_addLink 10 = .ok (.invokestatic 96, 3) := by decide +kernel
theorem dX11_addLink_13 : decode cX11_addLink 13 = .ok (.aload_n 0, 1) := by decide +kernel
theorem dX11_addLink_14 : decode cX11_addLink 14 = .ok (.getfield 23, 3) := by decide +kernel
theorem dX11_addLink_17 : decode cX11_addLink 17 = .ok (.aload_n 0, 1) := by decide +kernel
theorem dX11_addLink_18 : decode cX11_addLink 18 = .ok (.getfield 12, 3) := by decide +kernel
theorem dX11_addLink_21 : decode cX11_addLink 21 = .ok (.invokevirtual 73, 3) := by decide +kernel
theorem dX11_addLink_24 : decode cX11_addLink 24 = .ok (.aload_n 0, 1) := by decide +kernel
theorem dX11_addLink_25 : decode cX11_addLink 25 = .ok (.getfield 12, 3) := by decide +kernel
theorem dX11_addLink_28 : decode cX11_addLink 28 = .ok (.getfield 112, 3) := by decide +kernel
theorem dX11_addLink_31 : decode cX11_addLink 31 = .ok (.iload_n 1, 1) := by decide +kernel
theorem dX11_addLink_32 : decode cX11_addLink 32 = .ok (.iload_n 2, 1) := by decide +kernel
theorem dX11_addLink_33 : decode cX11_addLink 33 = .ok (.iload_n 3, 1) := by decide +kernel
theorem dX11_addLink_34 : decode cX11_addLink 34 = .ok (.invokevirtual 116, 3) := by decide +kernel
theorem dX11_addLink_37 : decode cX11_addLink 37 = .ok (.ireturn, 1) := by decide +kernel
theorem dX11_fail_0 : decode cX11_fail 0 = .ok (.aload_n 0, 1) := by decide +kernel
theorem dX11_fail_1 : decode cX11_fail 1 = .ok (.getfield 12, 3) := by decide +kernel
theorem dX11_fail_4 : decode cX11_fail 4 = .ok (.iload_n 1, 1) := by decide +kernel
theorem dX11_fail_5 : decode cX11_fail 5 = .ok (.iconst 1, 1) := by decide +kernel
theorem dX11_fail_6 : decode cX11_fail 6 = .ok (.invokevirtual 121, 3) := by decide +kernel
theorem dX11_fail_9 : decode cX11_fail 9 = .ok (.invokestatic 96, 3) := by decide +kernel
theorem dX11_fail_12 : decode cX11_fail 12 = .ok (.aload_n 0, 1) := by decide +kernel
theorem dX11_fail_13 : decode cX11_fail 13 = .ok (.getfield 23, 3) := by decide +kernel
theorem dX11_fail_16 : decode cX11_fail 16 = .ok (.aload_n 0, 1) := by decide +kernel
theorem dX11_fail_17 : decode cX11_fail 17 = .ok (.getfield 12, 3) := by decide +kernel
theorem dX11_fail_20 : decode cX11_fail 20 = .ok (.invokevirtual 73, 3) := by decide +kernel
theorem dX11_fail_23 : decode cX11_fail 23 = .ok (.aload_n 0, 1) := by decide +kernel
theorem dX11_fail_24 : decode cX11_fail 24 = .ok (.getfield 12, 3) := by decide +kernel
theorem dX11_fail_27 : decode cX11_fail 27 = .ok (.iload_n 1, 1) := by decide +kernel
theorem dX11_fail_28 : decode cX11_fail 28 = .ok (.invokevirtual 125, 3) := by decide +kernel
theorem dX11_fail_31 : decode cX11_fail 31 = .ok (.ireturn, 1) := by decide +kernel
theorem dX11_fix_0 : decode cX11_fix 0 = .ok (.aload_n 0, 1) := by decide +kernel
theorem dX11_fix_1 : decode cX11_fix 1 = .ok (.getfield 12, 3) := by decide +kernel
theorem dX11_fix_4 : decode cX11_fix 4 = .ok (.iload_n 1, 1) := by decide +kernel
theorem dX11_fix_5 : decode cX11_fix 5 = .ok (.iconst 0, 1) := by decide +kernel
theorem dX11_fix_6 : decode cX11_fix 6 = .ok (.invokevirtual 121, 3) := by decide +kernel
theorem dX11_fix_9 : decode cX11_fix 9 = .ok (.invokestatic 96, 3) := by decide +kernel
theorem dX11_fix_12 : decode cX11_fix 12 = .ok (.aload_n 0, 1) := by decide +kernel
theorem dX11_fix_13 : decode cX11_fix 13 = .ok (.getfield 23, 3) := by decide +kernel
theorem dX11_fix_16 : decode cX11_fix 16 = .ok (.aload_n 0, 1) := by decide +kernel
theorem dX11_fix_17 : decode cX11_fix 17 = .ok (.getfield 12, 3) := by decide +kernel
theorem dX11_fix_20 : decode cX11_fix 20 = .ok (.invokevirtual 73, 3) := by decide +kernel
theorem dX11_fix_23 : decode cX11_fix 23 = .ok (.aload_n 0, 1) := by decide +kernel
theorem dX11_fix_24 : decode cX11_fix 24 = .ok (.getfield 12, 3) := by decide +kernel
theorem dX11_fix_27 : decode cX11_fix 27 = .ok (.getfield 112, 3) := by decide +kernel
theorem dX11_fix_30 : decode cX11_fix 30 = .ok (.iload_n 1, 1) := by decide +kernel
theorem dX11_fix_31 : decode cX11_fix 31 = .ok (.invokevirtual 129, 3) := by decide +kernel
theorem dX11_fix_34 : decode cX11_fix 34 = .ok (.ireturn, 1) := by decide +kernel
theorem dX11_moveHost_0 : decode cX11_moveHost 0 = .ok (.aload_n 0, 1) := by decide +kernel
theorem dX11_moveHost_1 : decode cX11_moveHost 1 = .ok (.getfield 12, 3) := by decide +kernel
theorem dX11_moveHost_4 : decode cX11_moveHost 4 = .ok (.iload_n 1, 1) := by decide +kernel
theorem dX11_moveHost_5 : decode cX11_moveHost 5 = .ok (.iload_n 2, 1) := by decide +kernel
theorem dX11_moveHost_6 : decode cX11_moveHost 6 = .ok (.invokevirtual 132, 3) := by decide +kernel
theorem dX11_moveHost_9 : decode cX11_moveHost 9 = .ok (.invokestatic 96, 3) := by decide +kernel
theorem dX11_moveHost_12 : decode cX11_moveHost 12 = .ok (.aload_n 0, 1) := by decide +kernel
theorem dX11_moveHost_13 : decode cX11_moveHost 13 = .ok (.getfield 23, 3) := by decide +kernel
theorem dX11_moveHost_16 : decode cX11_moveHost 16 = .ok (.aload_n 0, 1) := by decide +kernel
theorem dX11_moveHost_17 : decode cX11_moveHost 17 = .ok (.getfield 12, 3) := by decide +kernel
theorem dX11_moveHost_20 : decode cX11_moveHost 20 = .ok (.invokevirtual 73, 3) := by decide +kernel
theorem dX11_moveHost_23 : decode cX11_moveHost 23 = .ok (.aload_n 0, 1) := by decide +kernel
theorem dX11_moveHost_24 : decode cX11_moveHost 24 = .ok (.getfield 12, 3) := by decide +kernel
theorem dX11_moveHost_27 : decode cX11_moveHost 27 = .ok (.getfield 99, 3) := by decide +kernel
theorem dX11_moveHost_30 : decode cX11_moveHost 30 = .ok (.iload_n 1, 1) := by decide +kernel
theorem dX11_moveHost_31 : decode cX11_moveHost 31 = .ok (.iload_n 2, 1) := by decide +kernel
theorem dX11_moveHost_32 : decode cX11_moveHost 32 = .ok (.invokevirtual 135, 3) := by decide +kernel
theorem dX11_moveHost_35 : decode cX11_moveHost 35 = .ok (.ireturn, 1) := by decide +kernel
theorem dX11_bid_0 : decode cX11_bid 0 = .ok (.aload_n 0, 1) := by decide +kernel
theorem dX11_bid_1 : decode cX11_bid 1 = .ok (.getfield 12, 3) := by decide +kernel
theorem dX11_bid_4 : decode cX11_bid 4 = .ok (.iload_n 1, 1) := by decide +kernel
theorem dX11_bid_5 : decode cX11_bid 5 = .ok (.iload_n 2, 1) := by decide +kernel
theorem dX11_bid_6 : decode cX11_bid 6 = .ok (.iload_n 3, 1) := by decide +kernel
theorem dX11_bid_7 : decode cX11_bid 7 = .ok (.invokevirtual 138, 3) := by decide +kernel
theorem dX11_bid_10 : decode cX11_bid 10 = .ok (.invokestatic 96, 3) := by decide +kernel
theorem dX11_bid_13 : decode cX11_bid 13 = .ok (.aload_n 0, 1) := by decide +kernel
theorem dX11_bid_14 : decode cX11_bid 14 = .ok (.getfield 23, 3) := by decide +kernel
theorem dX11_bid_17 : decode cX11_bid 17 = .ok (.aload_n 0, 1) := by decide +kernel
theorem dX11_bid_18 : decode cX11_bid 18 = .ok (.getfield 12, 3) := by decide +kernel
theorem dX11_bid_21 : decode cX11_bid 21 = .ok (.invokevirtual 73, 3) := by decide +kernel
theorem dX11_bid_24 : decode cX11_bid 24 = .ok (.aload_n 0, 1) := by decide +kernel
theorem dX11_bid_25 : decode cX11_bid 25 = .ok (.getfield 12, 3) := by decide +kernel
theorem dX11_bid_28 : decode cX11_bid 28 = .ok (.getfield 141, 3) := by decide +kernel
theorem dX11_bid_31 : decode cX11_bid 31 = .ok (.iload_n 1, 1) := by decide +kernel
theorem dX11_bid_32 : decode cX11_bid 32 = .ok (.iload_n 2, 1) := by decide +kernel
theorem dX11_bid_33 : decode cX11_bid 33 = .ok (.iload_n 3, 1) := by decide +kernel
theorem dX11_bid_34 : decode cX11_bid 34 = .ok (.invokevirtual 145, 3) := by decide +kernel
theorem dX11_bid_37 : decode cX11_bid 37 = .ok (.ireturn, 1) := by decide +kernel
theorem dX11_grant_0 : decode cX11_grant 0 = .ok (.iload_n 1, 1) := by decide +kernel
theorem dX11_grant_1 : decode cX11_grant 1 = .ok (.iconst 0, 1) := by decide +kernel
theorem dX11_grant_2 : decode cX11_grant 2 = .ok (.iconst 3, 1) := by decide +kernel
theorem dX11_grant_3 : decode cX11_grant 3 = .ok (.invokestatic 62, 3) := by decide +kernel
theorem dX11_grant_6 : decode cX11_grant 6 = .ok (.ifCond .eq 13, 3) := by decide +kernel
theorem dX11_grant_9 : decode cX11_grant 9 = .ok (.new 150, 3) := by decide +kernel
theorem dX11_grant_12 : decode cX11_grant 12 = .ok (.dup, 1) := by decide +kernel
theorem dX11_grant_13 : decode cX11_grant 13 = .ok (.ldc 152, 2) := by decide +kernel
theorem dX11_grant_15 : decode cX11_grant 15 = .ok (.invokespecial 154, 3) := by decide +kernel
theorem dX11_grant_18 : decode cX11_grant 18 = .ok (.athrow, 1) := by decide +kernel
theorem dX11_grant_19 : decode cX11_grant 19 = .ok (.iload_n 2, 1) := by decide +kernel
theorem dX11_grant_20 : decode cX11_grant 20 = .ok (.iconst 0, 1) := by decide +kernel
theorem dX11_grant_21 : decode cX11_grant 21 = .ok (.sipush 10000, 3) := by decide +kernel
theorem dX11_grant_24 : decode cX11_grant 24 = .ok (.invokestatic 62, 3) := by decide +kernel
theorem dX11_grant_27 : decode cX11_grant 27 = .ok (.ifCond .eq 13, 3) := by decide +kernel
theorem dX11_grant_30 : decode cX11_grant 30 = .ok (.new 66, 3) := by decide +kernel
theorem dX11_grant_33 : decode cX11_grant 33 = .ok (.dup, 1) := by decide +kernel
theorem dX11_grant_34 : decode cX11_grant 34 = .ok (.ldc 155, 2) := by decide +kernel
theorem dX11_grant_36 : decode cX11_grant 36 = .ok (.invokespecial 70, 3) := by decide +kernel
theorem dX11_grant_39 : decode cX11_grant 39 = .ok (.athrow, 1) := by decide +kernel
theorem dX11_grant_40 : decode cX11_grant 40 = .ok (.aload_n 0, 1) := by decide +kernel
theorem dX11_grant_41 : decode cX11_grant 41 = .ok (.getfield 12, 3) := by decide +kernel
theorem dX11_grant_44 : decode cX11_grant 44 = .ok (.getfield 141, 3) := by decide +kernel
theorem dX11_grant_47 : decode cX11_grant 47 = .ok (.getfield 157, 3) := by decide +kernel
theorem dX11_grant_50 : decode cX11_grant 50 = .ok (.iload_n 1, 1) := by decide +kernel
theorem dX11_grant_51 : decode cX11_grant 51 = .ok (.iaload, 1) := by decide +kernel
theorem dX11_grant_52 : decode cX11_grant 52 = .ok (.iload_n 2, 1) := by decide +kernel
theorem dX11_grant_53 : decode cX11_grant 53 = .ok (.iadd, 1) := by decide +kernel
theorem dX11_grant_54 : decode cX11_grant 54 = .ok (.ldc 161, 2) := by decide +kernel
theorem dX11_grant_56 : decode cX11_grant 56 = .ok (.if_icmp .le 13, 3) := by decide +kernel
theorem dX11_grant_59 : decode cX11_grant 59 = .ok (.new 162, 3) := by decide +kernel
theorem dX11_grant_62 : decode cX11_grant 62 = .ok (.dup, 1) := by decide +kernel
theorem dX11_grant_63 : decode cX11_grant 63 = .ok (.ldc 164, 2) := by decide +kernel
theorem dX11_grant_65 : decode cX11_grant 65 = .ok (.invokespecial 166, 3) := by decide +kernel
theorem dX11_grant_68 : decode cX11_grant 68 = .ok (.athrow, 1) := by decide +kernel
theorem dX11_grant_69 : decode cX11_grant 69 = .ok (.aload_n 0, 1) := by decide +kernel
theorem dX11_grant_70 : decode cX11_grant 70 = .ok (.getfield 23, 3) := by decide +kernel
theorem dX11_grant_73 : decode cX11_grant 73 = .ok (.aload_n 0, 1) := by decide +kernel
theorem dX11_grant_74 : decode cX11_grant 74 = .ok (.getfield 12, 3) := by decide +kernel
theorem dX11_grant_77 : decode cX11_grant 77 = .ok (.invokevirtual 73, 3) := by decide +kernel
theorem dX11_grant_80 : decode cX11_grant 80 = .ok (.aload_n 0, 1) := by decide +kernel
theorem dX11_grant_81 : decode cX11_grant 81 = .ok (.getfield 12, 3) := by decide +kernel
theorem dX11_grant_84 : decode cX11_grant 84 = .ok (.getfield 141, 3) := by decide +kernel
theorem dX11_grant_87 : decode cX11_grant 87 = .ok (.getfield 157, 3) := by decide +kernel
theorem dX11_grant_90 : decode cX11_grant 90 = .ok (.iload_n 1, 1) := by decide +kernel
theorem dX11_grant_91 : decode cX11_grant 91 = .ok (.dup2, 1) := by decide +kernel
theorem dX11_grant_92 : decode cX11_grant 92 = .ok (.iaload, 1) := by decide +kernel
theorem dX11_grant_93 : decode cX11_grant 93 = .ok (.iload_n 2, 1) := by decide +kernel
theorem dX11_grant_94 : decode cX11_grant 94 = .ok (.iadd, 1) := by decide +kernel
theorem dX11_grant_95 : decode cX11_grant 95 = .ok (.iastore, 1) := by decide +kernel
theorem dX11_grant_96 : decode cX11_grant 96 = .ok (.aload_n 0, 1) := by decide +kernel
theorem dX11_grant_97 : decode cX11_grant 97 = .ok (.getfield 12, 3) := by decide +kernel
theorem dX11_grant_100 : decode cX11_grant 100 = .ok (.getfield 141, 3) := by decide +kernel
theorem dX11_grant_103 : decode cX11_grant 103 = .ok (.getfield 157, 3) := by decide +kernel
theorem dX11_grant_106 : decode cX11_grant 106 = .ok (.iload_n 1, 1) := by decide +kernel
theorem dX11_grant_107 : decode cX11_grant 107 = .ok (.iaload, 1) := by decide +kernel
theorem dX11_grant_108 : decode cX11_grant 108 = .ok (.ireturn, 1) := by decide +kernel
theorem dX11_tick_0 : decode cX11_tick 0 = .ok (.iload_n 1, 1) := by decide +kernel
theorem dX11_tick_1 : decode cX11_tick 1 = .ok (.invokestatic 167, 3) := by decide +kernel
theorem dX11_tick_4 : decode cX11_tick 4 = .ok (.invokestatic 96, 3) := by decide +kernel
theorem dX11_tick_7 : decode cX11_tick 7 = .ok (.aload_n 0, 1) := by decide +kernel
theorem dX11_tick_8 : decode cX11_tick 8 = .ok (.getfield 23, 3) := by decide +kernel
theorem dX11_tick_11 : decode cX11_tick 11 = .ok (.aload_n 0, 1) := by decide +kernel
theorem dX11_tick_12 : decode cX11_tick 12 = .ok (.getfield 12, 3) := by decide +kernel
theorem dX11_tick_15 : decode cX11_tick 15 = .ok (.invokevirtual 73, 3) := by decide +kernel
theorem dX11_tick_18 : decode cX11_tick 18 = .ok (.aload_n 0, 1) := by decide +kernel
