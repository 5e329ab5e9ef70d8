theorem dX11_tick_19 : decode cX11_tick 19 = .ok (.iload_n 1, 1) := by decide +kernel
theorem dX11_tick_20 : decode cX11_tick 20 = .ok (.invokevirtual 170, 3) := by decide +kernel
theorem dX11_tick_23 : decode cX11_tick 23 = .ok (.aload_n 0, 1) := by decide +kernel
theorem dX11_tick_24 : decode cX11_tick 24 = .ok (.getfield 12, 3) := by decide +kernel
theorem dX11_tick_27 : decode cX11_tick 27 = .ok (.getfield 173, 3) := by decide +kernel
theorem dX11_tick_30 : decode cX11_tick 30 = .ok (.ireturn, 1) := by decide +kernel
theorem dX11_time_0 : decode cX11_time 0 = .ok (.aload_n 0, 1) := by decide +kernel
theorem dX11_time_1 : decode cX11_time 1 = .ok (.getfield 12, 3) := by decide +kernel
theorem dX11_time_4 : decode cX11_time 4 = .ok (.getfield 173, 3) := by decide +kernel
theorem dX11_time_7 : decode cX11_time 7 = .ok (.ireturn, 1) := by decide +kernel
theorem dX11_send_0 : decode cX11_send 0 = .ok (.iload_n 1, 1) := by decide +kernel
theorem dX11_send_1 : decode cX11_send 1 = .ok (.iconst 0, 1) := by decide +kernel
theorem dX11_send_2 : decode cX11_send 2 = .ok (.bipush 7, 2) := by decide +kernel
theorem dX11_send_4 : decode cX11_send 4 = .ok (.invokestatic 62, 3) := by decide +kernel
theorem dX11_send_7 : decode cX11_send 7 = .ok (.ifCond .ne 13, 3) := by decide +kernel
theorem dX11_send_10 : decode cX11_send 10 = .ok (.iload_n 2, 1) := by decide +kernel
theorem dX11_send_11 : decode cX11_send 11 = .ok (.iconst 0, 1) := by decide +kernel
theorem dX11_send_12 : decode cX11_send 12 = .ok (.bipush 7, 2) := by decide +kernel
theorem dX11_send_14 : decode cX11_send 14 = .ok (.invokestatic 62, 3) := by decide +kernel
theorem dX11_send_17 : decode cX11_send 17 = .ok (.ifCond .eq 13, 3) := by decide +kernel
theorem dX11_send_20 : decode cX11_send 20 = .ok (.new 150, 3) := by decide +kernel
theorem dX11_send_23 : decode cX11_send 23 = .ok (.dup, 1) := by decide +kernel
theorem dX11_send_24 : decode cX11_send 24 = .ok (.ldc 176, 2) := by decide +kernel
theorem dX11_send_26 : decode cX11_send 26 = .ok (.invokespecial 154, 3) := by decide +kernel
theorem dX11_send_29 : decode cX11_send 29 = .ok (.athrow, 1) := by decide +kernel
theorem dX11_send_30 : decode cX11_send 30 = .ok (.iload_n 1, 1) := by decide +kernel
theorem dX11_send_31 : decode cX11_send 31 = .ok (.iload_n 2, 1) := by decide +kernel
theorem dX11_send_32 : decode cX11_send 32 = .ok (.if_icmp .ne 13, 3) := by decide +kernel
theorem dX11_send_35 : decode cX11_send 35 = .ok (.new 66, 3) := by decide +kernel
theorem dX11_send_38 : decode cX11_send 38 = .ok (.dup, 1) := by decide +kernel
theorem dX11_send_39 : decode cX11_send 39 = .ok (.ldc 178, 2) := by decide +kernel
theorem dX11_send_41 : decode cX11_send 41 = .ok (.invokespecial 70, 3) := by decide +kernel
theorem dX11_send_44 : decode cX11_send 44 = .ok (.athrow, 1) := by decide +kernel
theorem dX11_send_45 : decode cX11_send 45 = .ok (.aload_n 0, 1) := by decide +kernel
theorem dX11_send_46 : decode cX11_send 46 = .ok (.getfield 23, 3) := by decide +kernel
theorem dX11_send_49 : decode cX11_send 49 = .ok (.aload_n 0, 1) := by decide +kernel
theorem dX11_send_50 : decode cX11_send 50 = .ok (.getfield 12, 3) := by decide +kernel
theorem dX11_send_53 : decode cX11_send 53 = .ok (.invokevirtual 73, 3) := by decide +kernel
theorem dX11_send_56 : decode cX11_send 56 = .ok (.aload_n 0, 1) := by decide +kernel
theorem dX11_send_57 : decode cX11_send 57 = .ok (.getfield 51, 3) := by decide +kernel
theorem dX11_send_60 : decode cX11_send 60 = .ok (.aload_n 0, 1) := by decide +kernel
theorem dX11_send_61 : decode cX11_send 61 = .ok (.getfield 12, 3) := by decide +kernel
theorem dX11_send_64 : decode cX11_send 64 = .ok (.iload_n 1, 1) := by decide +kernel
theorem dX11_send_65 : decode cX11_send 65 = .ok (.iload_n 2, 1) := by decide +kernel
theorem dX11_send_66 : decode cX11_send 66 = .ok (.invokevirtual 180, 3) := by decide +kernel
theorem dX11_send_69 : decode cX11_send 69 = .ok (.ireturn, 1) := by decide +kernel
theorem dX11_bridge_0 : decode cX11_bridge 0 = .ok (.iload_n 1, 1) := by decide +kernel
theorem dX11_bridge_1 : decode cX11_bridge 1 = .ok (.iconst 0, 1) := by decide +kernel
theorem dX11_bridge_2 : decode cX11_bridge 2 = .ok (.aload_n 0, 1) := by decide +kernel
theorem dX11_bridge_3 : decode cX11_bridge 3 = .ok (.getfield 12, 3) := by decide +kernel
theorem dX11_bridge_6 : decode cX11_bridge 6 = .ok (.getfield 77, 3) := by decide +kernel
theorem dX11_bridge_9 : decode cX11_bridge 9 = .ok (.iconst 1, 1) := by decide +kernel
theorem dX11_bridge_10 : decode cX11_bridge 10 = .ok (.isub, 1) := by decide +kernel
theorem dX11_bridge_11 : decode cX11_bridge 11 = .ok (.invokestatic 62, 3) := by decide +kernel
theorem dX11_bridge_14 : decode cX11_bridge 14 = .ok (.ifCond .eq 13, 3) := by decide +kernel
theorem dX11_bridge_17 : decode cX11_bridge 17 = .ok (.new 150, 3) := by decide +kernel
theorem dX11_bridge_20 : decode cX11_bridge 20 = .ok (.dup, 1) := by decide +kernel
theorem dX11_bridge_21 : decode cX11_bridge 21 = .ok (.ldc 184, 2) := by decide +kernel
theorem dX11_bridge_23 : decode cX11_bridge 23 = .ok (.invokespecial 154, 3) := by decide +kernel
theorem dX11_bridge_26 : decode cX11_bridge 26 = .ok (.athrow, 1) := by decide +kernel
theorem dX11_bridge_27 : decode cX11_bridge 27 = .ok (.iload_n 2, 1) := by decide +kernel
theorem dX11_bridge_28 : decode cX11_bridge 28 = .ok (.iconst 0, 1) := by decide +kernel
theorem dX11_bridge_29 : decode cX11_bridge 29 = .ok (.iconst 5, 1) := by decide +kernel
theorem dX11_bridge_30 : decode cX11_bridge 30 = .ok (.invokestatic 62, 3) := by decide +kernel
theorem dX11_bridge_33 : decode cX11_bridge 33 = .ok (.ifCond .eq 13, 3) := by decide +kernel
theorem dX11_bridge_36 : decode cX11_bridge 36 = .ok (.new 66, 3) := by decide +kernel
theorem dX11_bridge_39 : decode cX11_bridge 39 = .ok (.dup, 1) := by decide +kernel
theorem dX11_bridge_40 : decode cX11_bridge 40 = .ok (.ldc 186, 2) := by decide +kernel
theorem dX11_bridge_42 : decode cX11_bridge 42 = .ok (.invokespecial 70, 3) := by decide +kernel
theorem dX11_bridge_45 : decode cX11_bridge 45 = .ok (.athrow, 1) := by decide +kernel
theorem dX11_bridge_46 : decode cX11_bridge 46 = .ok (.aload_n 0, 1) := by decide +kernel
theorem dX11_bridge_47 : decode cX11_bridge 47 = .ok (.getfield 12, 3) := by decide +kernel
theorem dX11_bridge_50 : decode cX11_bridge 50 = .ok (.getfield 99, 3) := by decide +kernel
theorem dX11_bridge_53 : decode cX11_bridge 53 = .ok (.iload_n 1, 1) := by decide +kernel
theorem dX11_bridge_54 : decode cX11_bridge 54 = .ok (.iload_n 2, 1) := by decide +kernel
theorem dX11_bridge_55 : decode cX11_bridge 55 = .ok (.invokevirtual 188, 3) := by decide +kernel
theorem dX11_bridge_58 : decode cX11_bridge 58 = .ok (.ireturn, 1) := by decide +kernel
theorem dX11_links_0 : decode cX11_links 0 = .ok (.aload_n 0, 1) := by decide +kernel
theorem dX11_links_1 : decode cX11_links 1 = .ok (.getfield 12, 3) := by decide +kernel
theorem dX11_links_4 : decode cX11_links 4 = .ok (.getfield 112, 3) := by decide +kernel
theorem dX11_links_7 : decode cX11_links 7 = .ok (.getfield 191, 3) := by decide +kernel
theorem dX11_links_10 : decode cX11_links 10 = .ok (.ireturn, 1) := by decide +kernel
theorem dX11_link_0 : decode cX11_link 0 = .ok (.aload_n 0, 1) := by decide +kernel
theorem dX11_link_1 : decode cX11_link 1 = .ok (.getfield 12, 3) := by decide +kernel
theorem dX11_link_4 : decode cX11_link 4 = .ok (.getfield 112, 3) := by decide +kernel
theorem dX11_link_7 : decode cX11_link 7 = .ok (.iload_n 1, 1) := by decide +kernel
theorem dX11_link_8 : decode cX11_link 8 = .ok (.invokevirtual 194, 3) := by decide +kernel
theorem dX11_link_11 : decode cX11_link 11 = .ok (.ifCond .ne 13, 3) := by decide +kernel
theorem dX11_link_14 : decode cX11_link 14 = .ok (.new 150, 3) := by decide +kernel
theorem dX11_link_17 : decode cX11_link 17 = .ok (.dup, 1) := by decide +kernel
theorem dX11_link_18 : decode cX11_link 18 = .ok (.ldc 198, 2) := by decide +kernel
theorem dX11_link_20 : decode cX11_link 20 = .ok (.invokespecial 154, 3) := by decide +kernel
theorem dX11_link_23 : decode cX11_link 23 = .ok (.athrow, 1) := by decide +kernel
theorem dX11_link_24 : decode cX11_link 24 = .ok (.iload_n 2, 1) := by decide +kernel
theorem dX11_link_25 : decode cX11_link 25 = .ok (.iconst 0, 1) := by decide +kernel
theorem dX11_link_26 : decode cX11_link 26 = .ok (.bipush 8, 2) := by decide +kernel
theorem dX11_link_28 : decode cX11_link 28 = .ok (.invokestatic 62, 3) := by decide +kernel
theorem dX11_link_31 : decode cX11_link 31 = .ok (.ifCond .eq 13, 3) := by decide +kernel
theorem dX11_link_34 : decode cX11_link 34 = .ok (.new 66, 3) := by decide +kernel
theorem dX11_link_37 : decode cX11_link 37 = .ok (.dup, 1) := by decide +kernel
theorem dX11_link_38 : decode cX11_link 38 = .ok (.ldc 186, 2) := by decide +kernel
theorem dX11_link_40 : decode cX11_link 40 = .ok (.invokespecial 70, 3) := by decide +kernel
theorem dX11_link_43 : decode cX11_link 43 = .ok (.athrow, 1) := by decide +kernel
theorem dX11_link_44 : decode cX11_link 44 = .ok (.aload_n 0, 1) := by decide +kernel
theorem dX11_link_45 : decode cX11_link 45 = .ok (.getfield 12, 3) := by decide +kernel
theorem dX11_link_48 : decode cX11_link 48 = .ok (.getfield 112, 3) := by decide +kernel
theorem dX11_link_51 : decode cX11_link 51 = .ok (.iload_n 1, 1) := by decide +kernel
theorem dX11_link_52 : decode cX11_link 52 = .ok (.iload_n 2, 1) := by decide +kernel
theorem dX11_link_53 : decode cX11_link 53 = .ok (.invokevirtual 200, 3) := by decide +kernel
theorem dX11_link_56 : decode cX11_link 56 = .ok (.ireturn, 1) := by decide +kernel
theorem dX11_port_0 : decode cX11_port 0 = .ok (.aload_n 0, 1) := by decide +kernel
theorem dX11_port_1 : decode cX11_port 1 = .ok (.getfield 12, 3) := by decide +kernel
theorem dX11_port_4 : decode cX11_port 4 = .ok (.getfield 112, 3) := by decide +kernel
theorem dX11_port_7 : decode cX11_port 7 = .ok (.iload_n 1, 1) := by decide +kernel
theorem dX11_port_8 : decode cX11_port 8 = .ok (.invokevirtual 194, 3) := by decide +kernel
theorem dX11_port_11 : decode cX11_port 11 = .ok (.ifCond .ne 13, 3) := by decide +kernel
theorem dX11_port_14 : decode cX11_port 14 = .ok (.new 150, 3) := by decide +kernel
theorem dX11_port_17 : decode cX11_port 17 = .ok (.dup, 1) := by decide +kernel
theorem dX11_port_18 : decode cX11_port 18 = .ok (.ldc 198, 2) := by decide +kernel
theorem dX11_port_20 : decode cX11_port 20 = .ok (.invokespecial 154, 3) := by decide +kernel
theorem dX11_port_23 : decode cX11_port 23 = .ok (.athrow, 1) := by decide +kernel
theorem dX11_port_24 : decode cX11_port 24 = .ok (.iload_n 3, 1) := by decide +kernel
theorem dX11_port_25 : decode cX11_port 25 = .ok (.iconst 0, 1) := by decide +kernel
theorem dX11_port_26 : decode cX11_port 26 = .ok (.iconst 2, 1) := by decide +kernel
theorem dX11_port_27 : decode cX11_port 27 = .ok (.invokestatic 62, 3) := by decide +kernel
theorem dX11_port_30 : decode cX11_port 30 = .ok (.ifCond .eq 13, 3) := by decide +kernel
theorem dX11_port_33 : decode cX11_port 33 = .ok (.new 66, 3) := by decide +kernel
theorem dX11_port_36 : decode cX11_port 36 = .ok (.dup, 1) := by decide +kernel
theorem dX11_port_37 : decode cX11_port 37 = .ok (.ldc 186, 2) := by decide +kernel
theorem dX11_port_39 : decode cX11_port 39 = .ok (.invokespecial 70, 3) := by decide +kernel
theorem dX11_port_42 : decode cX11_port 42 = .ok (.athrow, 1) := by decide +kernel
theorem dX11_port_43 : decode cX11_port 43 = .ok (.iload_n 2, 1) := by decide +kernel
theorem dX11_port_44 : decode cX11_port 44 = .ok (.ifCond .eq 11, 3) := by decide +kernel
theorem dX11_port_47 : decode cX11_port 47 = .ok (.iconst 2, 1) := by decide +kernel
theorem dX11_port_48 : decode cX11_port 48 = .ok (.iload_n 1, 1) := by decide +kernel
theorem dX11_port_49 : decode cX11_port 49 = .ok (.imul, 1) := by decide +kernel
theorem dX11_port_50 : decode cX11_port 50 = .ok (.iconst 1, 1) := by decide +kernel
theorem dX11_port_51 : decode cX11_port 51 = .ok (.iadd, 1) := by decide +kernel
theorem dX11_port_52 : decode cX11_port 52 = .ok (.goto 6, 3) := by decide +kernel
theorem dX11_port_55 : decode cX11_port 55 = .ok (.iconst 2, 1) := by decide +kernel
theorem dX11_port_56 : decode cX11_port 56 = .ok (.iload_n 1, 1) := by decide +kernel
theorem dX11_port_57 : decode cX11_port 57 = .ok (.imul, 1) := by decide +kernel
theorem dX11_port_58 : decode cX11_port 58 = .ok (.istore 4, 2) := by decide +kernel
theorem dX11_port_60 : decode cX11_port 60 = .ok (.iload_n 3, 1) := by decide +kernel
theorem dX11_port_61 : decode cX11_port 61 = .ok (.ifCond .ne 17, 3) := by decide +kernel
theorem dX11_port_64 : decode cX11_port 64 = .ok (.aload_n 0, 1) := by decide +kernel
theorem dX11_port_65 : decode cX11_port 65 = .ok (.getfield 12, 3) := by decide +kernel
theorem dX11_port_68 : decode cX11_port 68 = .ok (.getfield 112, 3) := by decide +kernel
theorem dX11_port_71 : decode cX11_port 71 = .ok (.getfield 201, 3) := by decide +kernel
theorem dX11_port_74 : decode cX11_port 74 = .ok (.iload 4, 2) := by decide +kernel
theorem dX11_port_76 : decode cX11_port 76 = .ok (.iaload, 1) := by decide +kernel
theorem dX11_port_77 : decode cX11_port 77 = .ok (.ireturn, 1) := by decide +kernel
theorem dX11_port_78 : decode cX11_port 78 = .ok (.iload_n 3, 1) := by decide +kernel
theorem dX11_port_79 : decode cX11_port 79 = .ok (.iconst 1, 1) := by decide +kernel
theorem dX11_port_80 : decode cX11_port 80 = .ok (.if_icmp .ne 19, 3) := by decide +kernel
theorem dX11_port_83 : decode cX11_port 83 = .ok (.aload_n 0, 1) := by decide +kernel
theorem dX11_port_84 : decode cX11_port 84 = .ok (.getfield 12, 3) := by decide +kernel
theorem dX11_port_87 : decode cX11_port 87 = .ok (.getfield 112, 3) := by decide +kernel
theorem dX11_port_90 : decode cX11_port 90 = .ok (.getfield 204, 3) := by decide +kernel
theorem dX11_port_93 : decode cX11_port 93 = .ok (.iload 4, 2) := by decide +kernel
theorem dX11_port_95 : decode cX11_port 95 = .ok (.iaload, 1) := by decide +kernel
theorem dX11_port_96 : decode cX11_port 96 = .ok (.goto 16, 3) := by decide +kernel
theorem dX11_port_99 : decode cX11_port 99 = .ok (.aload_n 0, 1) := by decide +kernel
theorem dX11_port_100 : decode cX11_port 100 = .ok (.getfield 12, 3) := by decide +kernel
theorem dX11_port_103 : decode cX11_port 103 = .ok (.getfield 112, 3) := by decide +kernel
theorem dX11_port_106 : decode cX11_port 106 = .ok (.getfield 207, 3) := by decide +kernel
theorem dX11_port_109 : decode cX11_port 109 = .ok (.iload 4, 2) := by decide +kernel
theorem dX11_port_111 : decode cX11_port 111 = .ok (.iaload, 1) := by decide +kernel
theorem dX11_port_112 : decode cX11_port 112 = .ok (.ireturn, 1) := by decide +kernel
theorem dX11_entry_0 : decode cX11_entry 0 = .ok (.aload_n 0, 1) := by decide +kernel
theorem dX11_entry_1 : decode cX11_entry 1 = .ok (.getfield 12, 3) := by decide +kernel
theorem dX11_entry_4 : decode cX11_entry 4 = .ok (.iload_n 2, 1) := by decide +kernel
theorem dX11_entry_5 : decode cX11_entry 5 = .ok (.iload_n 1, 1) := by decide +kernel
theorem dX11_entry_6 : decode cX11_entry 6 = .ok (.invokevirtual 132, 3) := by decide +kernel
theorem dX11_entry_9 : decode cX11_entry 9 = .ok (.invokestatic 96, 3) := by decide +kernel
theorem dX11_entry_12 : decode cX11_entry 12 = .ok (.aload_n 0, 1) := by decide +kernel
theorem dX11_entry_13 : decode cX11_entry 13 = .ok (.getfield 12, 3) := by decide +kernel
theorem dX11_entry_16 : decode cX11_entry 16 = .ok (.getfield 99, 3) := by decide +kernel
theorem dX11_entry_19 : decode cX11_entry 19 = .ok (.iload_n 1, 1) := by decide +kernel
theorem dX11_entry_20 : decode cX11_entry 20 = .ok (.iload_n 2, 1) := by decide +kernel
theorem dX11_entry_21 : decode cX11_entry 21 = .ok (.aload_n 0, 1) := by decide +kernel
theorem dX11_entry_22 : decode cX11_entry 22 = .ok (.getfield 12, 3) := by decide +kernel
theorem dX11_entry_25 : decode cX11_entry 25 = .ok (.getfield 173, 3) := by decide +kernel
theorem dX11_entry_28 : decode cX11_entry 28 = .ok (.invokevirtual 210, 3) := by decide +kernel
theorem dX11_entry_31 : decode cX11_entry 31 = .ok (.ireturn, 1) := by decide +kernel
theorem dX11_tenant_0 : decode cX11_tenant 0 = .ok (.iload_n 1, 1) := by decide +kernel
theorem dX11_tenant_1 : decode cX11_tenant 1 = .ok (.iconst 0, 1) := by decide +kernel
theorem dX11_tenant_2 : decode cX11_tenant 2 = .ok (.iconst 3, 1) := by decide +kernel
theorem dX11_tenant_3 : decode cX11_tenant 3 = .ok (.invokestatic 62, 3) := by decide +kernel
theorem dX11_tenant_6 : decode cX11_tenant 6 = .ok (.ifCond .eq 13, 3) := by decide +kernel
theorem dX11_tenant_9 : decode cX11_tenant 9 = .ok (.new 150, 3) := by decide +kernel
theorem dX11_tenant_12 : decode cX11_tenant 12 = .ok (.dup, 1) := by decide +kernel
theorem dX11_tenant_13 : decode cX11_tenant 13 = .ok (.ldc 152, 2) := by decide +kernel
theorem dX11_tenant_15 : decode cX11_tenant 15 = .ok (.invokespecial 154, 3) := by decide +kernel
theorem dX11_tenant_18 : decode cX11_tenant 18 = .ok (.athrow, 1) := by decide +kernel
theorem dX11_tenant_19 : decode cX11_tenant 19 = .ok (.iload_n 2, 1) := by decide +kernel
theorem dX11_tenant_20 : decode cX11_tenant 20 = .ok (.iconst 0, 1) := by decide +kernel
theorem dX11_tenant_21 : decode cX11_tenant 21 = .ok (.iconst 3, 1) := by decide +kernel
theorem dX11_tenant_22 : decode cX11_tenant 22 = .ok (.invokestatic 62, 3) := by decide +kernel
theorem dX11_tenant_25 : decode cX11_tenant 25 = .ok (.ifCond .eq 13, 3) := by decide +kernel
theorem dX11_tenant_28 : decode cX11_tenant 28 = .ok (.new 66, 3) := by decide +kernel
theorem dX11_tenant_31 : decode cX11_tenant 31 = .ok (.dup, 1) := by decide +kernel
theorem dX11_tenant_32 : decode cX11_tenant 32 = .ok (.ldc 186, 2) := by decide +kernel
theorem dX11_tenant_34 : decode cX11_tenant 34 = .ok (.invokespecial 70, 3) := by decide +kernel
theorem dX11_tenant_37 : decode cX11_tenant 37 = .ok (.athrow, 1) := by decide +kernel
theorem dX11_tenant_38 : decode cX11_tenant 38 = .ok (.iload_n 2, 1) := by decide +kernel
theorem dX11_tenant_39 : decode cX11_tenant 39 = .ok (.tableswitch 63 0 2 #[25, 38, 50], 25) := by decide +kernel
theorem dX11_tenant_64 : decode cX11_tenant 64 = .ok (.aload_n 0, 1) := by decide +kernel
theorem dX11_tenant_65 : decode cX11_tenant 65 = .ok (.getfield 12, 3) := by decide +kernel
theorem dX11_tenant_68 : decode cX11_tenant 68 = .ok (.getfield 141, 3) := by decide +kernel
theorem dX11_tenant_71 : decode cX11_tenant 71 = .ok (.getfield 157, 3) := by decide +kernel
theorem dX11_tenant_74 : decode cX11_tenant 74 = .ok (.iload_n 1, 1) := by decide +kernel
theorem dX11_tenant_75 : decode cX11_tenant 75 = .ok (.iaload, 1) := by decide +kernel
theorem dX11_tenant_76 : decode cX11_tenant 76 = .ok (.ireturn, 1) := by decide +kernel
theorem dX11_tenant_77 : decode cX11_tenant 77 = .ok (.aload_n 0, 1) := by decide +kernel
theorem dX11_tenant_78 : decode cX11_tenant 78 = .ok (.getfield 12, 3) := by decide +kernel
theorem dX11_tenant_81 : decode cX11_tenant 81 = .ok (.getfield 112, 3) := by decide +kernel
theorem dX11_tenant_84 : decode cX11_tenant 84 = .ok (.iload_n 1, 1) := by decide +kernel
theorem dX11_tenant_85 : decode cX11_tenant 85 = .ok (.invokevirtual 213, 3) := by decide +kernel
theorem dX11_tenant_88 : decode cX11_tenant 88 = .ok (.ireturn, 1) := by decide +kernel
theorem dX11_tenant_89 : decode cX11_tenant 89 = .ok (.aload_n 0, 1) := by decide +kernel
theorem dX11_tenant_90 : decode cX11_tenant 90 = .ok (.getfield 12, 3) := by decide +kernel
theorem dX11_tenant_93 : decode cX11_tenant 93 = .ok (.getfield 141, 3) := by decide +kernel
theorem dX11_tenant_96 : decode cX11_tenant 96 = .ok (.getfield 216, 3) := by decide +kernel
theorem dX11_tenant_99 : decode cX11_tenant 99 = .ok (.iload_n 1, 1) := by decide +kernel
theorem dX11_tenant_100 : decode cX11_tenant 100 = .ok (.iaload, 1) := by decide +kernel
theorem dX11_tenant_101 : decode cX11_tenant 101 = .ok (.ireturn, 1) := by decide +kernel
theorem dX11_tenant_102 : decode cX11_tenant 102 = .ok (.aload_n 0, 1) := by decide +kernel
theorem dX11_tenant_103 : decode cX11_tenant 103 = .ok (.getfield 12, 3) := by decide +kernel
theorem dX11_tenant_106 : decode cX11_tenant 106 = .ok (.getfield 141, 3) := by decide +kernel
theorem dX11_tenant_109 : decode cX11_tenant 109 = .ok (.getfield 219, 3) := by decide +kernel
theorem dX11_tenant_112 : decode cX11_tenant 112 = .ok (.iload_n 1, 1) := by decide +kernel
theorem dX11_tenant_113 : decode cX11_tenant 113 = .ok (.iaload, 1) := by decide +kernel
theorem dX11_tenant_114 : decode cX11_tenant 114 = .ok (.ireturn, 1) := by decide +kernel
theorem dX11_bidOf_0 : decode cX11_bidOf 0 = .ok (.aload_n 0, 1) := by decide +kernel
theorem dX11_bidOf_1 : decode cX11_bidOf 1 = .ok (.getfield 12, 3) := by decide +kernel
theorem dX11_bidOf_4 : decode cX11_bidOf 4 = .ok (.iload_n 1, 1) := by decide +kernel
theorem dX11_bidOf_5 : decode cX11_bidOf 5 = .ok (.iload_n 2, 1) := by decide +kernel
theorem dX11_bidOf_6 : decode cX11_bidOf 6 = .ok (.iconst 0, 1) := by decide +kernel
theorem dX11_bidOf_7 : decode cX11_bidOf 7 = .ok (.invokevirtual 138, 3) := by decide +kernel
theorem dX11_bidOf_10 : decode cX11_bidOf 10 = .ok (.invokestatic 96, 3) := by decide +kernel
theorem dX11_bidOf_13 : decode cX11_bidOf 13 = .ok (.aload_n 0, 1) := by decide +kernel
theorem dX11_bidOf_14 : decode cX11_bidOf 14 = .ok (.getfield 12, 3) := by decide +kernel
theorem dX11_bidOf_17 : decode cX11_bidOf 17 = .ok (.getfield 141, 3) := by decide +kernel
theorem dX11_bidOf_20 : decode cX11_bidOf 20 = .ok (.getfield 222, 3) := by decide +kernel
theorem dX11_bidOf_23 : decode cX11_bidOf 23 = .ok (.iload_n 1, 1) := by decide +kernel
theorem dX11_bidOf_24 : decode cX11_bidOf 24 = .ok (.bipush 16, 2) := by decide +kernel
theorem dX11_bidOf_26 : decode cX11_bidOf 26 = .ok (.imul, 1) := by decide +kernel
theorem dX11_bidOf_27 : decode cX11_bidOf 27 = .ok (.iload_n 2, 1) := by decide +kernel
theorem dX11_bidOf_28 : decode cX11_bidOf 28 = .ok (.iadd, 1) := by decide +kernel
theorem dX11_bidOf_29 : decode cX11_bidOf 29 = .ok (.iaload, 1) := by decide +kernel
theorem dX11_bidOf_30 : decode cX11_bidOf 30 = .ok (.ireturn, 1) := by decide +kernel
theorem dX11_count_0 : decode cX11_count 0 = .ok (.iload_n 1, 1) := by decide +kernel
theorem dX11_count_1 : decode cX11_count 1 = .ok (.iconst 0, 1) := by decide +kernel
theorem dX11_count_2 : decode cX11_count 2 = .ok (.bipush 6, 2) := by decide +kernel
theorem dX11_count_4 : decode cX11_count 4 = .ok (.invokestatic 62, 3) := by decide +kernel
theorem dX11_count_7 : decode cX11_count 7 = .ok (.ifCond .eq 13, 3) := by decide +kernel
theorem dX11_count_10 : decode cX11_count 10 = .ok (.new 66, 3) := by decide +kernel
theorem dX11_count_13 : decode cX11_count 13 = .ok (.dup, 1) := by decide +kernel
theorem dX11_count_14 : decode cX11_count 14 = .ok (.ldc 186, 2) := by decide +kernel
theorem dX11_count_16 : decode cX11_count 16 = .ok (.invokespecial 70, 3) := by decide +kernel
theorem dX11_count_19 : decode cX11_count 19 = .ok (.athrow, 1) := by decide +kernel
theorem dX11_count_20 : decode cX11_count 20 = .ok (.iload_n 1, 1) := by decide +kernel
theorem dX11_count_21 : decode cX11_count 21 = .ok (.tableswitch 90 0 5 #[39, 47, 55, 63, 71, 79], 39) := by decide +kernel
theorem dX11_count_60 : decode cX11_count 60 = .ok (.aload_n 0, 1) := by decide +kernel
theorem dX11_count_61 : decode cX11_count 61 = .ok (.getfield 12, 3) := by decide +kernel
theorem dX11_count_64 : decode cX11_count 64 = .ok (.getfield 225, 3) := by decide +kernel
theorem dX11_count_67 : decode cX11_count 67 = .ok (.ireturn, 1) := by decide +kernel
theorem dX11_count_68 : decode cX11_count 68 = .ok (.aload_n 0, 1) := by decide +kernel
theorem dX11_count_69 : decode cX11_count 69 = .ok (.getfield 12, 3) := by decide +kernel
theorem dX11_count_72 : decode cX11_count 72 = .ok (.getfield 228, 3) := by decide +kernel
theorem dX11_count_75 : decode cX11_count 75 = .ok (.ireturn, 1) := by decide +kernel
theorem dX11_count_76 : decode cX11_count 76 = .ok (.aload_n 0, 1) := by decide +kernel
theorem dX11_count_77 : decode cX11_count 77 = .ok (.getfield 12, 3) := by decide +kernel
theorem dX11_count_80 : decode cX11_count 80 = .ok (.getfield 231, 3) := by decide +kernel
theorem dX11_count_83 : decode cX11_count 83 = .ok (.ireturn, 1) := by decide +kernel
theorem dX11_count_84 : decode cX11_count 84 = .ok (.aload_n 0, 1) := by decide +kernel
theorem dX11_count_85 : decode cX11_count 85 = .ok (.getfield 12, 3) := by decide +kernel
theorem dX11_count_88 : decode cX11_count 88 = .ok (.getfield 234, 3) := by decide +kernel
theorem dX11_count_91 : decode cX11_count 91 = .ok (.ireturn, 1) := by decide +kernel
theorem dX11_count_92 : decode cX11_count 92 = .ok (.aload_n 0, 1) := by decide +kernel
theorem dX11_count_93 : decode cX11_count 93 = .ok (.getfield 12, 3) := by decide +kernel
theorem dX11_count_96 : decode cX11_count 96 = .ok (.getfield 237, 3) := by decide +kernel
theorem dX11_count_99 : decode cX11_count 99 = .ok (.ireturn, 1) := by decide +kernel
theorem dX11_count_100 : decode cX11_count 100 = .ok (.aload_n 0, 1) := by decide +kernel
theorem dX11_count_101 : decode cX11_count 101 = .ok (.getfield 12, 3) := by decide +kernel
theorem dX11_count_104 : decode cX11_count 104 = .ok (.getfield 112, 3) := by decide +kernel
theorem dX11_count_107 : decode cX11_count 107 = .ok (.invokevirtual 240, 3) := by decide +kernel
theorem dX11_count_110 : decode cX11_count 110 = .ok (.ireturn, 1) := by decide +kernel
theorem dX11_count_111 : decode cX11_count 111 = .ok (.aload_n 0, 1) := by decide +kernel
theorem dX11_count_112 : decode cX11_count 112 = .ok (.getfield 58, 3) := by decide +kernel
theorem dX11_count_115 : decode cX11_count 115 = .ok (.aload_n 0, 1) := by decide +kernel
theorem dX11_count_116 : decode cX11_count 116 = .ok (.getfield 12, 3) := by decide +kernel
theorem dX11_count_119 : decode cX11_count 119 = .ok (.invokevirtual 244, 3) := by decide +kernel
theorem dX11_count_122 : decode cX11_count 122 = .ok (.pop, 1) := by decide +kernel
theorem dX11_count_123 : decode cX11_count 123 = .ok (.aload_n 0, 1) := by decide +kernel
theorem dX11_count_124 : decode cX11_count 124 = .ok (.getfield 58, 3) := by decide +kernel
theorem dX11_count_127 : decode cX11_count 127 = .ok (.aload_n 0, 1) := by decide +kernel
theorem dX11_count_128 : decode cX11_count 128 = .ok (.getfield 12, 3) := by decide +kernel
theorem dX11_count_131 : decode cX11_count 131 = .ok (.getfield 77, 3) := by decide +kernel
theorem dX11_count_134 : decode cX11_count 134 = .ok (.invokevirtual 248, 3) := by decide +kernel
theorem dX11_count_137 : decode cX11_count 137 = .ok (.ireturn, 1) := by decide +kernel
theorem dX11_isForest_0 : decode cX11_isForest 0 = .ok (.aload_n 0, 1) := by decide +kernel
theorem dX11_isForest_1 : decode cX11_isForest 1 = .ok (.getfield 58, 3) := by decide +kernel
theorem dX11_isForest_4 : decode cX11_isForest 4 = .ok (.aload_n 0, 1) := by decide +kernel
theorem dX11_isForest_5 : decode cX11_isForest 5 = .ok (.getfield 12, 3) := by decide +kernel
theorem dX11_isForest_8 : decode cX11_isForest 8 = .ok (.invokevirtual 244, 3) := by decide +kernel
theorem dX11_isForest_11 : decode cX11_isForest 11 = .ok (.ireturn, 1) := by decide +kernel
theorem dX11_type_0 : decode cX11_type 0 = .ok (.iload_n 1, 1) := by decide +kernel
theorem dX11_type_1 : decode cX11_type 1 = .ok (.iconst 0, 1) := by decide +kernel
theorem dX11_type_2 : decode cX11_type 2 = .ok (.bipush 127, 2) := by decide +kernel
theorem dX11_type_4 : decode cX11_type 4 = .ok (.invokestatic 62, 3) := by decide +kernel
theorem dX11_type_7 : decode cX11_type 7 = .ok (.ifCond .eq 13, 3) := by decide +kernel
theorem dX11_type_10 : decode cX11_type 10 = .ok (.new 66, 3) := by decide +kernel
theorem dX11_type_13 : decode cX11_type 13 = .ok (.dup, 1) := by decide +kernel
theorem dX11_type_14 : decode cX11_type 14 = .ok (.ldc 251, 2) := by decide +kernel
theorem dX11_type_16 : decode cX11_type 16 = .ok (.invokespecial 70, 3) := by decide +kernel
theorem dX11_type_19 : decode cX11_type 19 = .ok (.athrow, 1) := by decide +kernel
theorem dX11_type_20 : decode cX11_type 20 = .ok (.aload_n 0, 1) := by decide +kernel
theorem dX11_type_21 : decode cX11_type 21 = .ok (.getfield 30, 3) := by decide +kernel
theorem dX11_type_24 : decode cX11_type 24 = .ok (.invokevirtual 253, 3) := by decide +kernel
theorem dX11_type_27 : decode cX11_type 27 = .ok (.ifCond .eq 14, 3) := by decide +kernel
theorem dX11_type_30 : decode cX11_type 30 = .ok (.new 162, 3) := by decide +kernel
theorem dX11_type_33 : decode cX11_type 33 = .ok (.dup, 1) := by decide +kernel
theorem dX11_type_34 : decode cX11_type 34 = .ok (.ldc_w 257, 3) := by decide +kernel
theorem dX11_type_37 : decode cX11_type 37 = .ok (.invokespecial 166, 3) := by decide +kernel
theorem dX11_type_40 : decode cX11_type 40 = .ok (.athrow, 1) := by decide +kernel
theorem dX11_type_41 : decode cX11_type 41 = .ok (.aload_n 0, 1) := by decide +kernel
theorem dX11_type_42 : decode cX11_type 42 = .ok (.getfield 30, 3) := by decide +kernel
theorem dX11_type_45 : decode cX11_type 45 = .ok (.iload_n 1, 1) := by decide +kernel
theorem dX11_type_46 : decode cX11_type 46 = .ok (.invokevirtual 259, 3) := by decide +kernel
theorem dX11_type_49 : decode cX11_type 49 = .ok (.ireturn, 1) := by decide +kernel
theorem dX11_clearScript_0 : decode cX11_clearScript 0 = .ok (.aload_n 0, 1) := by decide +kernel
theorem dX11_clearScript_1 : decode cX11_clearScript 1 = .ok (.getfield 30, 3) := by decide +kernel
theorem dX11_clearScript_4 : decode cX11_clearScript 4 = .ok (.getfield 261, 3) := by decide +kernel
theorem dX11_clearScript_7 : decode cX11_clearScript 7 = .ok (.istore_n 1, 1) := by decide +kernel
theorem dX11_clearScript_8 : decode cX11_clearScript 8 = .ok (.aload_n 0, 1) := by decide +kernel
theorem dX11_clearScript_9 : decode cX11_clearScript 9 = .ok (.getfield 30, 3) := by decide +kernel
theorem dX11_clearScript_12 : decode cX11_clearScript 12 = .ok (.iconst 0, 1) := by decide +kernel
theorem dX11_clearScript_13 : decode cX11_clearScript 13 = .ok (.putfield 261, 3) := by decide +kernel
theorem dX11_clearScript_16 : decode cX11_clearScript 16 = .ok (.iload_n 1, 1) := by decide +kernel
theorem dX11_clearScript_17 : decode cX11_clearScript 17 = .ok (.ireturn, 1) := by decide +kernel
theorem dX11_run_0 : decode cX11_run 0 = .ok (.aload_n 0, 1) := by decide +kernel
theorem dX11_run_1 : decode cX11_run 1 = .ok (.getfield 30, 3) := by decide +kernel
theorem dX11_run_4 : decode cX11_run 4 = .ok (.invokevirtual 264, 3) := by decide +kernel
theorem dX11_run_7 : decode cX11_run 7 = .ok (.istore_n 1, 1) := by decide +kernel
theorem dX11_run_8 : decode cX11_run 8 = .ok (.iload_n 1, 1) := by decide +kernel
theorem dX11_run_9 : decode cX11_run 9 = .ok (.iconst (-1), 1) := by decide +kernel
theorem dX11_run_10 : decode cX11_run 10 = .ok (.if_icmp .eq 8, 3) := by decide +kernel
theorem dX11_run_13 : decode cX11_run 13 = .ok (.bipush (-10), 2) := by decide +kernel
theorem dX11_run_15 : decode cX11_run 15 = .ok (.iload_n 1, 1) := by decide +kernel
theorem dX11_run_16 : decode cX11_run 16 = .ok (.isub, 1) := by decide +kernel
theorem dX11_run_17 : decode cX11_run 17 = .ok (.ireturn, 1) := by decide +kernel
theorem dX11_run_18 : decode cX11_run 18 = .ok (.aload_n 0, 1) := by decide +kernel
theorem dX11_run_19 : decode cX11_run 19 = .ok (.getfield 23, 3) := by decide +kernel
theorem dX11_run_22 : decode cX11_run 22 = .ok (.aload_n 0, 1) := by decide +kernel
theorem dX11_run_23 : decode cX11_run 23 = .ok (.getfield 12, 3) := by decide +kernel
theorem dX11_run_26 : decode cX11_run 26 = .ok (.invokevirtual 73, 3) := by decide +kernel
theorem dX11_run_29 : decode cX11_run 29 = .ok (.aload_n 0, 1) := by decide +kernel
theorem dX11_run_30 : decode cX11_run 30 = .ok (.getfield 30, 3) := by decide +kernel
theorem dX11_run_33 : decode cX11_run 33 = .ok (.invokevirtual 267, 3) := by decide +kernel
theorem dX11_run_36 : decode cX11_run 36 = .ok (.iconst 0, 1) := by decide +kernel
theorem dX11_run_37 : decode cX11_run 37 = .ok (.istore_n 2, 1) := by decide +kernel
theorem dX11_run_38 : decode cX11_run 38 = .ok (.iconst 0, 1) := by decide +kernel
theorem dX11_run_39 : decode cX11_run 39 = .ok (.istore_n 3, 1) := by decide +kernel
theorem dX11_run_40 : decode cX11_run 40 = .ok (.iload_n 3, 1) := by decide +kernel
theorem dX11_run_41 : decode cX11_run 41 = .ok (.aload_n 0, 1) := by decide +kernel
theorem dX11_run_42 : decode cX11_run 42 = .ok (.getfield 30, 3) := by decide +kernel
theorem dX11_run_45 : decode cX11_run 45 = .ok (.getfield 261, 3) := by decide +kernel
theorem dX11_run_48 : decode cX11_run 48 = .ok (.if_icmp .ge 31, 3) := by decide +kernel
theorem dX11_run_51 : decode cX11_run 51 = .ok (.aload_n 0, 1) := by decide +kernel
theorem dX11_run_52 : decode cX11_run 52 = .ok (.getfield 30, 3) := by decide +kernel
theorem dX11_run_55 : decode cX11_run 55 = .ok (.invokevirtual 270, 3) := by decide +kernel
theorem dX11_run_58 : decode cX11_run 58 = .ok (.ifCond .eq 10, 3) := by decide +kernel
theorem dX11_run_61 : decode cX11_run 61 = .ok (.aload_n 0, 1) := by decide +kernel
theorem dX11_run_62 : decode cX11_run 62 = .ok (.invokevirtual 273, 3) := by decide +kernel
theorem dX11_run_65 : decode cX11_run 65 = .ok (.ifCond .ne 5, 3) := by decide +kernel
theorem dX11_run_68 : decode cX11_run 68 = .ok (.iload_n 2, 1) := by decide +kernel
theorem dX11_run_69 : decode cX11_run 69 = .ok (.ireturn, 1) := by decide +kernel
theorem dX11_run_70 : decode cX11_run 70 = .ok (.iinc 2 1, 3) := by decide +kernel
theorem dX11_run_73 : decode cX11_run 73 = .ok (.iinc 3 1, 3) := by decide +kernel
theorem dX11_run_76 : decode cX11_run 76 = .ok (.goto (-36), 3) := by decide +kernel
theorem dX11_run_79 : decode cX11_run 79 = .ok (.iload_n 2, 1) := by decide +kernel
theorem dX11_run_80 : decode cX11_run 80 = .ok (.ireturn, 1) := by decide +kernel
theorem dX11_undo_0 : decode cX11_undo 0 = .ok (.aload_n 0, 1) := by decide +kernel
theorem dX11_undo_1 : decode cX11_undo 1 = .ok (.getfield 23, 3) := by decide +kernel
theorem dX11_undo_4 : decode cX11_undo 4 = .ok (.getfield 276, 3) := by decide +kernel
theorem dX11_undo_7 : decode cX11_undo 7 = .ok (.ifCond .ne 14, 3) := by decide +kernel
theorem dX11_undo_10 : decode cX11_undo 10 = .ok (.new 162, 3) := by decide +kernel
theorem dX11_undo_13 : decode cX11_undo 13 = .ok (.dup, 1) := by decide +kernel
theorem dX11_undo_14 : decode cX11_undo 14 = .ok (.ldc_w 277, 3) := by decide +kernel
theorem dX11_undo_17 : decode cX11_undo 17 = .ok (.invokespecial 166, 3) := by decide +kernel
theorem dX11_undo_20 : decode cX11_undo 20 = .ok (.athrow, 1) := by decide +kernel
theorem dX11_undo_21 : decode cX11_undo 21 = .ok (.aload_n 0, 1) := by decide +kernel
theorem dX11_undo_22 : decode cX11_undo 22 = .ok (.getfield 23, 3) := by decide +kernel
theorem dX11_undo_25 : decode cX11_undo 25 = .ok (.aload_n 0, 1) := by decide +kernel
theorem dX11_undo_26 : decode cX11_undo 26 = .ok (.getfield 12, 3) := by decide +kernel
theorem dX11_undo_29 : decode cX11_undo 29 = .ok (.invokevirtual 279, 3) := by decide +kernel
theorem dX11_undo_32 : decode cX11_undo 32 = .ok (.aload_n 0, 1) := by decide +kernel
theorem dX11_undo_33 : decode cX11_undo 33 = .ok (.getfield 23, 3) := by decide +kernel
theorem dX11_undo_36 : decode cX11_undo 36 = .ok (.getfield 276, 3) := by decide +kernel
theorem dX11_undo_39 : decode cX11_undo 39 = .ok (.ireturn, 1) := by decide +kernel
theorem dX11_digest_0 : decode cX11_digest 0 = .ok (.ldc2_w 282, 3) := by decide +kernel
theorem dX11_digest_3 : decode cX11_digest 3 = .ok (.lstore_n 1, 1) := by decide +kernel
theorem dX11_digest_4 : decode cX11_digest 4 = .ok (.lload_n 1, 1) := by decide +kernel
theorem dX11_digest_5 : decode cX11_digest 5 = .ok (.aload_n 0, 1) := by decide +kernel
theorem dX11_digest_6 : decode cX11_digest 6 = .ok (.getfield 23, 3) := by decide +kernel
theorem dX11_digest_9 : decode cX11_digest 9 = .ok (.getfield 276, 3) := by decide +kernel
theorem dX11_digest_12 : decode cX11_digest 12 = .ok (.i2l, 1) := by decide +kernel
theorem dX11_digest_13 : decode cX11_digest 13 = .ok (.invokestatic 284, 3) := by decide +kernel
theorem dX11_digest_16 : decode cX11_digest 16 = .ok (.lstore_n 1, 1) := by decide +kernel
theorem dX11_digest_17 : decode cX11_digest 17 = .ok (.lload_n 1, 1) := by decide +kernel
theorem dX11_digest_18 : decode cX11_digest 18 = .ok (.aload_n 0, 1) := by decide +kernel
theorem dX11_digest_19 : decode cX11_digest 19 = .ok (.getfield 30, 3) := by decide +kernel
theorem dX11_digest_22 : decode cX11_digest 22 = .ok (.getfield 261, 3) := by decide +kernel
theorem dX11_digest_25 : decode cX11_digest 25 = .ok (.i2l, 1) := by decide +kernel
theorem dX11_digest_26 : decode cX11_digest 26 = .ok (.invokestatic 284, 3) := by decide +kernel
theorem dX11_digest_29 : decode cX11_digest 29 = .ok (.lstore_n 1, 1) := by decide +kernel
theorem dX11_digest_30 : decode cX11_digest 30 = .ok (.lload_n 1, 1) := by decide +kernel
theorem dX11_digest_31 : decode cX11_digest 31 = .ok (.aload_n 0, 1) := by decide +kernel
theorem dX11_digest_32 : decode cX11_digest 32 = .ok (.getfield 12, 3) := by decide +kernel
theorem dX11_digest_35 : decode cX11_digest 35 = .ok (.getfield 77, 3) := by decide +kernel
theorem dX11_digest_38 : decode cX11_digest 38 = .ok (.i2l, 1) := by decide +kernel
theorem dX11_digest_39 : decode cX11_digest 39 = .ok (.invokestatic 284, 3) := by decide +kernel
theorem dX11_digest_42 : decode cX11_digest 42 = .ok (.lstore_n 1, 1) := by decide +kernel
theorem dX11_digest_43 : decode cX11_digest 43 = .ok (.lload_n 1, 1) := by decide +kernel
theorem dX11_digest_44 : decode cX11_digest 44 = .ok (.aload_n 0, 1) := by decide +kernel
theorem dX11_digest_45 : decode cX11_digest 45 = .ok (.getfield 12, 3) := by decide +kernel
theorem dX11_digest_48 : decode cX11_digest 48 = .ok (.getfield 173, 3) := by decide +kernel
theorem dX11_digest_51 : decode cX11_digest 51 = .ok (.i2l, 1) := by decide +kernel
theorem dX11_digest_52 : decode cX11_digest 52 = .ok (.invokestatic 284, 3) := by decide +kernel
theorem dX11_digest_55 : decode cX11_digest 55 = .ok (.lstore_n 1, 1) := by decide +kernel
theorem dX11_digest_56 : decode cX11_digest 56 = .ok (.lload_n 1, 1) := by decide +kernel
theorem dX11_digest_57 : decode cX11_digest 57 = .ok (.aload_n 0, 1) := by decide +kernel
theorem dX11_digest_58 : decode cX11_digest 58 = .ok (.getfield 12, 3) := by decide +kernel
theorem dX11_digest_61 : decode cX11_digest 61 = .ok (.getfield 86, 3) := by decide +kernel
theorem dX11_digest_64 : decode cX11_digest 64 = .ok (.i2l, 1) := by decide +kernel
theorem dX11_digest_65 : decode cX11_digest 65 = .ok (.invokestatic 284, 3) := by decide +kernel
theorem dX11_digest_68 : decode cX11_digest 68 = .ok (.lstore_n 1, 1) := by decide +kernel
theorem dX11_digest_69 : decode cX11_digest 69 = .ok (.lload_n 1, 1) := by decide +kernel
theorem dX11_digest_70 : decode cX11_digest 70 = .ok (.aload_n 0, 1) := by decide +kernel
theorem dX11_digest_71 : decode cX11_digest 71 = .ok (.getfield 12, 3) := by decide +kernel
theorem dX11_digest_74 : decode cX11_digest 74 = .ok (.getfield 83, 3) := by decide +kernel
theorem dX11_digest_77 : decode cX11_digest 77 = .ok (.i2l, 1) := by decide +kernel
theorem dX11_digest_78 : decode cX11_digest 78 = .ok (.invokestatic 284, 3) := by decide +kernel
theorem dX11_digest_81 : decode cX11_digest 81 = .ok (.lstore_n 1, 1) := by decide +kernel
theorem dX11_digest_82 : decode cX11_digest 82 = .ok (.lload_n 1, 1) := by decide +kernel
theorem dX11_digest_83 : decode cX11_digest 83 = .ok (.aload_n 0, 1) := by decide +kernel
theorem dX11_digest_84 : decode cX11_digest 84 = .ok (.getfield 12, 3) := by decide +kernel
theorem dX11_digest_87 : decode cX11_digest 87 = .ok (.getfield 89, 3) := by decide +kernel
theorem dX11_digest_90 : decode cX11_digest 90 = .ok (.i2l, 1) := by decide +kernel
theorem dX11_digest_91 : decode cX11_digest 91 = .ok (.invokestatic 284, 3) := by decide +kernel
theorem dX11_digest_94 : decode cX11_digest 94 = .ok (.lstore_n 1, 1) := by decide +kernel
theorem dX11_digest_95 : decode cX11_digest 95 = .ok (.aload_n 0, 1) := by decide +kernel
theorem dX11_digest_96 : decode cX11_digest 96 = .ok (.lload_n 1, 1) := by decide +kernel
theorem dX11_digest_97 : decode cX11_digest 97 = .ok (.invokevirtual 288, 3) := by decide +kernel
theorem dX11_digest_100 : decode cX11_digest 100 = .ok (.lstore_n 1, 1) := by decide +kernel
theorem dX11_digest_101 : decode cX11_digest 101 = .ok (.aload_n 0, 1) := by decide +kernel
theorem dX11_digest_102 : decode cX11_digest 102 = .ok (.lload_n 1, 1) := by decide +kernel
theorem dX11_digest_103 : decode cX11_digest 103 = .ok (.invokevirtual 292, 3) := by decide +kernel
theorem dX11_digest_106 : decode cX11_digest 106 = .ok (.lstore_n 1, 1) := by decide +kernel
theorem dX11_digest_107 : decode cX11_digest 107 = .ok (.iconst 0, 1) := by decide +kernel
theorem dX11_digest_108 : decode cX11_digest 108 = .ok (.istore_n 3, 1) := by decide +kernel
theorem dX11_digest_109 : decode cX11_digest 109 = .ok (.iload_n 3, 1) := by decide +kernel
theorem dX11_digest_110 : decode cX11_digest 110 = .ok (.iconst 4, 1) := by decide +kernel
theorem dX11_digest_111 : decode cX11_digest 111 = .ok (.if_icmp .ge 37, 3) := by decide +kernel
theorem dX11_digest_114 : decode cX11_digest 114 = .ok (.iconst 0, 1) := by decide +kernel
theorem dX11_digest_115 : decode cX11_digest 115 = .ok (.istore 4, 2) := by decide +kernel
theorem dX11_digest_117 : decode cX11_digest 117 = .ok (.iload 4, 2) := by decide +kernel
theorem dX11_digest_119 : decode cX11_digest 119 = .ok (.iconst 4, 1) := by decide +kernel
theorem dX11_digest_120 : decode cX11_digest 120 = .ok (.if_icmp .ge 22, 3) := by decide +kernel
theorem dX11_digest_123 : decode cX11_digest 123 = .ok (.lload_n 1, 1) := by decide +kernel
theorem dX11_digest_124 : decode cX11_digest 124 = .ok (.aload_n 0, 1) := by decide +kernel
theorem dX11_digest_125 : decode cX11_digest 125 = .ok (.iload_n 3, 1) := by decide +kernel
theorem dX11_digest_126 : decode cX11_digest 126 = .ok (.iload 4, 2) := by decide +kernel
theorem dX11_digest_128 : decode cX11_digest 128 = .ok (.invokevirtual 295, 3) := by decide +kernel
theorem dX11_digest_131 : decode cX11_digest 131 = .ok (.i2l, 1) := by decide +kernel
theorem dX11_digest_132 : decode cX11_digest 132 = .ok (.invokestatic 284, 3) := by decide +kernel
theorem dX11_digest_135 : decode cX11_digest 135 = .ok (.lstore_n 1, 1) := by decide +kernel
theorem dX11_digest_136 : decode cX11_digest 136 = .ok (.iinc 4 1, 3) := by decide +kernel
theorem dX11_digest_139 : decode cX11_digest 139 = .ok (.goto (-22), 3) := by decide +kernel
theorem dX11_digest_142 : decode cX11_digest 142 = .ok (.iinc 3 1, 3) := by decide +kernel
theorem dX11_digest_145 : decode cX11_digest 145 = .ok (.goto (-36), 3) := by decide +kernel
theorem dX11_digest_148 : decode cX11_digest 148 = .ok (.iconst 0, 1) := by decide +kernel
theorem dX11_digest_149 : decode cX11_digest 149 = .ok (.istore_n 3, 1) := by decide +kernel
theorem dX11_digest_150 : decode cX11_digest 150 = .ok (.iload_n 3, 1) := by decide +kernel
theorem dX11_digest_151 : decode cX11_digest 151 = .ok (.bipush 7, 2) := by decide +kernel
theorem dX11_digest_153 : decode cX11_digest 153 = .ok (.if_icmp .ge 20, 3) := by decide +kernel
theorem dX11_digest_156 : decode cX11_digest 156 = .ok (.lload_n 1, 1) := by decide +kernel
theorem dX11_digest_157 : decode cX11_digest 157 = .ok (.aload_n 0, 1) := by decide +kernel
theorem dX11_digest_158 : decode cX11_digest 158 = .ok (.iload_n 3, 1) := by decide +kernel
theorem dX11_digest_159 : decode cX11_digest 159 = .ok (.invokevirtual 298, 3) := by decide +kernel
theorem dX11_digest_162 : decode cX11_digest 162 = .ok (.i2l, 1) := by decide +kernel
theorem dX11_digest_163 : decode cX11_digest 163 = .ok (.invokestatic 284, 3) := by decide +kernel
theorem dX11_digest_166 : decode cX11_digest 166 = .ok (.lstore_n 1, 1) := by decide +kernel
theorem dX11_digest_167 : decode cX11_digest 167 = .ok (.iinc 3 1, 3) := by decide +kernel
theorem dX11_digest_170 : decode cX11_digest 170 = .ok (.goto (-20), 3) := by decide +kernel
theorem dX11_digest_173 : decode cX11_digest 173 = .ok (.lload_n 1, 1) := by decide +kernel
theorem dX11_digest_174 : decode cX11_digest 174 = .ok (.aload_n 0, 1) := by decide +kernel
theorem dX11_digest_175 : decode cX11_digest 175 = .ok (.invokevirtual 301, 3) := by decide +kernel
theorem dX11_digest_178 : decode cX11_digest 178 = .ok (.ifCond .eq 7, 3) := by decide +kernel
theorem dX11_digest_181 : decode cX11_digest 181 = .ok (.lconst 1, 1) := by decide +kernel
theorem dX11_digest_182 : decode cX11_digest 182 = .ok (.goto 4, 3) := by decide +kernel
theorem dX11_digest_185 : decode cX11_digest 185 = .ok (.lconst 0, 1) := by decide +kernel
theorem dX11_digest_186 : decode cX11_digest 186 = .ok (.invokestatic 284, 3) := by decide +kernel
theorem dX11_digest_189 : decode cX11_digest 189 = .ok (.lreturn, 1) := by decide +kernel
theorem dX11_mixBridges_0 : decode cX11_mixBridges 0 = .ok (.lload_n 1, 1) := by decide +kernel
theorem dX11_mixBridges_1 : decode cX11_mixBridges 1 = .ok (.lstore_n 3, 1) := by decide +kernel
theorem dX11_mixBridges_2 : decode cX11_mixBridges 2 = .ok (.iconst 0, 1) := by decide +kernel
theorem dX11_mixBridges_3 : decode cX11_mixBridges 3 = .ok (.istore 5, 2) := by decide +kernel
theorem dX11_mixBridges_5 : decode cX11_mixBridges 5 = .ok (.iload 5, 2) := by decide +kernel
theorem dX11_mixBridges_7 : decode cX11_mixBridges 7 = .ok (.aload_n 0, 1) := by decide +kernel
theorem dX11_mixBridges_8 : decode cX11_mixBridges 8 = .ok (.getfield 12, 3) := by decide +kernel
theorem dX11_mixBridges_11 : decode cX11_mixBridges 11 = .ok (.getfield 77, 3) := by decide +kernel
theorem dX11_mixBridges_14 : decode cX11_mixBridges 14 = .ok (.if_icmp .ge 69, 3) := by decide +kernel
theorem dX11_mixBridges_17 : decode cX11_mixBridges 17 = .ok (.iconst 0, 1) := by decide +kernel
theorem dX11_mixBridges_18 : decode cX11_mixBridges 18 = .ok (.istore 6, 2) := by decide +kernel
theorem dX11_mixBridges_20 : decode cX11_mixBridges 20 = .ok (.iload 6, 2) := by decide +kernel
theorem dX11_mixBridges_22 : decode cX11_mixBridges 22 = .ok (.bipush 6, 2) := by decide +kernel
theorem dX11_mixBridges_24 : decode cX11_mixBridges 24 = .ok (.if_icmp .ge 23, 3) := by decide +kernel
theorem dX11_mixBridges_27 : decode cX11_mixBridges 27 = .ok (.lload_n 3, 1) := by decide +kernel
theorem dX11_mixBridges_28 : decode cX11_mixBridges 28 = .ok (.aload_n 0, 1) := by decide +kernel
theorem dX11_mixBridges_29 : decode cX11_mixBridges 29 = .ok (.iload 5, 2) := by decide +kernel
theorem dX11_mixBridges_31 : decode cX11_mixBridges 31 = .ok (.iload 6, 2) := by decide +kernel
theorem dX11_mixBridges_33 : decode cX11_mixBridges 33 = .ok (.invokevirtual 304, 3) := by decide +kernel
theorem dX11_mixBridges_36 : decode cX11_mixBridges 36 = .ok (.i2l, 1) := by decide +kernel
theorem dX11_mixBridges_37 : decode cX11_mixBridges 37 = .ok (.invokestatic 284, 3) := by decide +kernel
theorem dX11_mixBridges_40 : decode cX11_mixBridges 40 = .ok (.lstore_n 3, 1) := by decide +kernel
theorem dX11_mixBridges_41 : decode cX11_mixBridges 41 = .ok (.iinc 6 1, 3) := by decide +kernel
theorem dX11_mixBridges_44 : decode cX11_mixBridges 44 = .ok (.goto (-24), 3) := by decide +kernel
theorem dX11_mixBridges_47 : decode cX11_mixBridges 47 = .ok (.iconst 0, 1) := by decide +kernel
theorem dX11_mixBridges_48 : decode cX11_mixBridges 48 = .ok (.istore 6, 2) := by decide +kernel
theorem dX11_mixBridges_50 : decode cX11_mixBridges 50 = .ok (.iload 6, 2) := by decide +kernel
theorem dX11_mixBridges_52 : decode cX11_mixBridges 52 = .ok (.bipush 8, 2) := by decide +kernel
theorem dX11_mixBridges_54 : decode cX11_mixBridges 54 = .ok (.if_icmp .ge 23, 3) := by decide +kernel
theorem dX11_mixBridges_57 : decode cX11_mixBridges 57 = .ok (.lload_n 3, 1) := by decide +kernel
theorem dX11_mixBridges_58 : decode cX11_mixBridges 58 = .ok (.aload_n 0, 1) := by decide +kernel
theorem dX11_mixBridges_59 : decode cX11_mixBridges 59 = .ok (.iload 5, 2) := by decide +kernel
theorem dX11_mixBridges_61 : decode cX11_mixBridges 61 = .ok (.iload 6, 2) := by decide +kernel
theorem dX11_mixBridges_63 : decode cX11_mixBridges 63 = .ok (.invokevirtual 307, 3) := by decide +kernel
theorem dX11_mixBridges_66 : decode cX11_mixBridges 66 = .ok (.i2l, 1) := by decide +kernel
theorem dX11_mixBridges_67 : decode cX11_mixBridges 67 = .ok (.invokestatic 284, 3) := by decide +kernel
theorem dX11_mixBridges_70 : decode cX11_mixBridges 70 = .ok (.lstore_n 3, 1) := by decide +kernel
theorem dX11_mixBridges_71 : decode cX11_mixBridges 71 = .ok (.iinc 6 1, 3) := by decide +kernel
theorem dX11_mixBridges_74 : decode cX11_mixBridges 74 = .ok (.goto (-24), 3) := by decide +kernel
theorem dX11_mixBridges_77 : decode cX11_mixBridges 77 = .ok (.iinc 5 1, 3) := by decide +kernel
theorem dX11_mixBridges_80 : decode cX11_mixBridges 80 = .ok (.goto (-75), 3) := by decide +kernel
theorem dX11_mixBridges_83 : decode cX11_mixBridges 83 = .ok (.iconst 0, 1) := by decide +kernel
theorem dX11_mixBridges_84 : decode cX11_mixBridges 84 = .ok (.istore 5, 2) := by decide +kernel
theorem dX11_mixBridges_86 : decode cX11_mixBridges 86 = .ok (.iload 5, 2) := by decide +kernel
theorem dX11_mixBridges_88 : decode cX11_mixBridges 88 = .ok (.bipush 8, 2) := by decide +kernel
theorem dX11_mixBridges_90 : decode cX11_mixBridges 90 = .ok (.if_icmp .ge 28, 3) := by decide +kernel
theorem dX11_mixBridges_93 : decode cX11_mixBridges 93 = .ok (.lload_n 3, 1) := by decide +kernel
theorem dX11_mixBridges_94 : decode cX11_mixBridges 94 = .ok (.aload_n 0, 1) := by decide +kernel
theorem dX11_mixBridges_95 : decode cX11_mixBridges 95 = .ok (.getfield 12, 3) := by decide +kernel
theorem dX11_mixBridges_98 : decode cX11_mixBridges 98 = .ok (.getfield 99, 3) := by decide +kernel
theorem dX11_mixBridges_101 : decode cX11_mixBridges 101 = .ok (.getfield 310, 3) := by decide +kernel
theorem dX11_mixBridges_104 : decode cX11_mixBridges 104 = .ok (.iload 5, 2) := by decide +kernel
theorem dX11_mixBridges_106 : decode cX11_mixBridges 106 = .ok (.iaload, 1) := by decide +kernel
theorem dX11_mixBridges_107 : decode cX11_mixBridges 107 = .ok (.i2l, 1) := by decide +kernel
theorem dX11_mixBridges_108 : decode cX11_mixBridges 108 = .ok (.invokestatic 284, 3) := by decide +kernel
theorem dX11_mixBridges_111 : decode cX11_mixBridges 111 = .ok (.lstore_n 3, 1) := by decide +kernel
theorem dX11_mixBridges_112 : decode cX11_mixBridges 112 = .ok (.iinc 5 1, 3) := by decide +kernel
theorem dX11_mixBridges_115 : decode cX11_mixBridges 115 = .ok (.goto (-29), 3) := by decide +kernel
theorem dX11_mixBridges_118 : decode cX11_mixBridges 118 = .ok (.lload_n 3, 1) := by decide +kernel
theorem dX11_mixBridges_119 : decode cX11_mixBridges 119 = .ok (.lreturn, 1) := by decide +kernel
theorem dX11_mixLinks_0 : decode cX11_mixLinks 0 = .ok (.lload_n 1, 1) := by decide +kernel
theorem dX11_mixLinks_1 : decode cX11_mixLinks 1 = .ok (.aload_n 0, 1) := by decide +kernel
theorem dX11_mixLinks_2 : decode cX11_mixLinks 2 = .ok (.getfield 12, 3) := by decide +kernel
theorem dX11_mixLinks_5 : decode cX11_mixLinks 5 = .ok (.getfield 112, 3) := by decide +kernel
theorem dX11_mixLinks_8 : decode cX11_mixLinks 8 = .ok (.getfield 191, 3) := by decide +kernel
theorem dX11_mixLinks_11 : decode cX11_mixLinks 11 = .ok (.i2l, 1) := by decide +kernel
theorem dX11_mixLinks_12 : decode cX11_mixLinks 12 = .ok (.invokestatic 284, 3) := by decide +kernel
theorem dX11_mixLinks_15 : decode cX11_mixLinks 15 = .ok (.lstore_n 3, 1) := by decide +kernel
theorem dX11_mixLinks_16 : decode cX11_mixLinks 16 = .ok (.iconst 0, 1) := by decide +kernel
theorem dX11_mixLinks_17 : decode cX11_mixLinks 17 = .ok (.istore 5, 2) := by decide +kernel
theorem dX11_mixLinks_19 : decode cX11_mixLinks 19 = .ok (.iload 5, 2) := by decide +kernel
theorem dX11_mixLinks_21 : decode cX11_mixLinks 21 = .ok (.aload_n 0, 1) := by decide +kernel
theorem dX11_mixLinks_22 : decode cX11_mixLinks 22 = .ok (.getfield 12, 3) := by decide +kernel
theorem dX11_mixLinks_25 : decode cX11_mixLinks 25 = .ok (.getfield 112, 3) := by decide +kernel
theorem dX11_mixLinks_28 : decode cX11_mixLinks 28 = .ok (.getfield 191, 3) := by decide +kernel
theorem dX11_mixLinks_31 : decode cX11_mixLinks 31 = .ok (.if_icmp .ge 128, 3) := by decide +kernel
theorem dX11_mixLinks_34 : decode cX11_mixLinks 34 = .ok (.iconst 0, 1) := by decide +kernel
theorem dX11_mixLinks_35 : decode cX11_mixLinks 35 = .ok (.istore 6, 2) := by decide +kernel
theorem dX11_mixLinks_37 : decode cX11_mixLinks 37 = .ok (.iload 6, 2) := by decide +kernel
theorem dX11_mixLinks_39 : decode cX11_mixLinks 39 = .ok (.bipush 9, 2) := by decide +kernel
theorem dX11_mixLinks_41 : decode cX11_mixLinks 41 = .ok (.if_icmp .ge 23, 3) := by decide +kernel
theorem dX11_mixLinks_44 : decode cX11_mixLinks 44 = .ok (.lload_n 3, 1) := by decide +kernel
theorem dX11_mixLinks_45 : decode cX11_mixLinks 45 = .ok (.aload_n 0, 1) := by decide +kernel
theorem dX11_mixLinks_46 : decode cX11_mixLinks 46 = .ok (.iload 5, 2) := by decide +kernel
theorem dX11_mixLinks_48 : decode cX11_mixLinks 48 = .ok (.iload 6, 2) := by decide +kernel
theorem dX11_mixLinks_50 : decode cX11_mixLinks 50 = .ok (.invokevirtual 313, 3) := by decide +kernel
theorem dX11_mixLinks_53 : decode cX11_mixLinks 53 = .ok (.i2l, 1) := by decide +kernel
theorem dX11_mixLinks_54 : decode cX11_mixLinks 54 = .ok (.invokestatic 284, 3) := by decide +kernel
theorem dX11_mixLinks_57 : decode cX11_mixLinks 57 = .ok (.lstore_n 3, 1) := by decide +kernel
theorem dX11_mixLinks_58 : decode cX11_mixLinks 58 = .ok (.iinc 6 1, 3) := by decide +kernel
theorem dX11_mixLinks_61 : decode cX11_mixLinks 61 = .ok (.goto (-24), 3) := by decide +kernel
theorem dX11_mixLinks_64 : decode cX11_mixLinks 64 = .ok (.iconst 0, 1) := by decide +kernel
theorem dX11_mixLinks_65 : decode cX11_mixLinks 65 = .ok (.istore 6, 2) := by decide +kernel
theorem dX11_mixLinks_67 : decode cX11_mixLinks 67 = .ok (.iload 6, 2) := by decide +kernel
theorem dX11_mixLinks_69 : decode cX11_mixLinks 69 = .ok (.iconst 3, 1) := by decide +kernel
theorem dX11_mixLinks_70 : decode cX11_mixLinks 70 = .ok (.if_icmp .ge 24, 3) := by decide +kernel
theorem dX11_mixLinks_73 : decode cX11_mixLinks 73 = .ok (.lload_n 3, 1) := by decide +kernel
theorem dX11_mixLinks_74 : decode cX11_mixLinks 74 = .ok (.aload_n 0, 1) := by decide +kernel
theorem dX11_mixLinks_75 : decode cX11_mixLinks 75 = .ok (.iload 5, 2) := by decide +kernel
theorem dX11_mixLinks_77 : decode cX11_mixLinks 77 = .ok (.iconst 0, 1) := by decide +kernel
theorem dX11_mixLinks_78 : decode cX11_mixLinks 78 = .ok (.iload 6, 2) := by decide +kernel
theorem dX11_mixLinks_80 : decode cX11_mixLinks 80 = .ok (.invokevirtual 316, 3) := by decide +kernel
theorem dX11_mixLinks_83 : decode cX11_mixLinks 83 = .ok (.i2l, 1) := by decide +kernel
theorem dX11_mixLinks_84 : decode cX11_mixLinks 84 = .ok (.invokestatic 284, 3) := by decide +kernel
theorem dX11_mixLinks_87 : decode cX11_mixLinks 87 = .ok (.lstore_n 3, 1) := by decide +kernel
theorem dX11_mixLinks_88 : decode cX11_mixLinks 88 = .ok (.iinc 6 1, 3) := by decide +kernel
theorem dX11_mixLinks_91 : decode cX11_mixLinks 91 = .ok (.goto (-24), 3) := by decide +kernel
theorem dX11_mixLinks_94 : decode cX11_mixLinks 94 = .ok (.iconst 0, 1) := by decide +kernel
theorem dX11_mixLinks_95 : decode cX11_mixLinks 95 = .ok (.istore 6, 2) := by decide +kernel
theorem dX11_mixLinks_97 : decode cX11_mixLinks 97 = .ok (.iload 6, 2) := by decide +kernel
theorem dX11_mixLinks_99 : decode cX11_mixLinks 99 = .ok (.iconst 3, 1) := by decide +kernel
theorem dX11_mixLinks_100 : decode cX11_mixLinks 100 = .ok (.if_icmp .ge 24, 3) := by decide +kernel
theorem dX11_mixLinks_103 : decode cX11_mixLinks 103 = .ok (.lload_n 3, 1) := by decide +kernel
theorem dX11_mixLinks_104 : decode cX11_mixLinks 104 = .ok (.aload_n 0, 1) := by decide +kernel
theorem dX11_mixLinks_105 : decode cX11_mixLinks 105 = .ok (.iload 5, 2) := by decide +kernel
theorem dX11_mixLinks_107 : decode cX11_mixLinks 107 = .ok (.iconst 1, 1) := by decide +kernel
theorem dX11_mixLinks_108 : decode cX11_mixLinks 108 = .ok (.iload 6, 2) := by decide +kernel
theorem dX11_mixLinks_110 : decode cX11_mixLinks 110 = .ok (.invokevirtual 316, 3) := by decide +kernel
theorem dX11_mixLinks_113 : decode cX11_mixLinks 113 = .ok (.i2l, 1) := by decide +kernel
theorem dX11_mixLinks_114 : decode cX11_mixLinks 114 = .ok (.invokestatic 284, 3) := by decide +kernel
theorem dX11_mixLinks_117 : decode cX11_mixLinks 117 = .ok (.lstore_n 3, 1) := by decide +kernel
theorem dX11_mixLinks_118 : decode cX11_mixLinks 118 = .ok (.iinc 6 1, 3) := by decide +kernel
theorem dX11_mixLinks_121 : decode cX11_mixLinks 121 = .ok (.goto (-24), 3) := by decide +kernel
theorem dX11_mixLinks_124 : decode cX11_mixLinks 124 = .ok (.iconst 0, 1) := by decide +kernel
theorem dX11_mixLinks_125 : decode cX11_mixLinks 125 = .ok (.istore 6, 2) := by decide +kernel
theorem dX11_mixLinks_127 : decode cX11_mixLinks 127 = .ok (.iload 6, 2) := by decide +kernel
theorem dX11_mixLinks_129 : decode cX11_mixLinks 129 = .ok (.iconst 4, 1) := by decide +kernel
theorem dX11_mixLinks_130 : decode cX11_mixLinks 130 = .ok (.if_icmp .ge 23, 3) := by decide +kernel
theorem dX11_mixLinks_133 : decode cX11_mixLinks 133 = .ok (.lload_n 3, 1) := by decide +kernel
theorem dX11_mixLinks_134 : decode cX11_mixLinks 134 = .ok (.aload_n 0, 1) := by decide +kernel
theorem dX11_mixLinks_135 : decode cX11_mixLinks 135 = .ok (.iload 6, 2) := by decide +kernel
theorem dX11_mixLinks_137 : decode cX11_mixLinks 137 = .ok (.iload 5, 2) := by decide +kernel
theorem dX11_mixLinks_139 : decode cX11_mixLinks 139 = .ok (.invokevirtual 320, 3) := by decide +kernel
theorem dX11_mixLinks_142 : decode cX11_mixLinks 142 = .ok (.i2l, 1) := by decide +kernel
theorem dX11_mixLinks_143 : decode cX11_mixLinks 143 = .ok (.invokestatic 284, 3) := by decide +kernel
theorem dX11_mixLinks_146 : decode cX11_mixLinks 146 = .ok (.lstore_n 3, 1) := by decide +kernel
theorem dX11_mixLinks_147 : decode cX11_mixLinks 147 = .ok (.iinc 6 1, 3) := by decide +kernel
theorem dX11_mixLinks_150 : decode cX11_mixLinks 150 = .ok (.goto (-23), 3) := by decide +kernel
theorem dX11_mixLinks_153 : decode cX11_mixLinks 153 = .ok (.iinc 5 1, 3) := by decide +kernel
theorem dX11_mixLinks_156 : decode cX11_mixLinks 156 = .ok (.goto (-137), 3) := by decide +kernel
theorem dX11_mixLinks_159 : decode cX11_mixLinks 159 = .ok (.lload_n 3, 1) := by decide +kernel
theorem dX11_mixLinks_160 : decode cX11_mixLinks 160 = .ok (.lreturn, 1) := by decide +kernel
theorem dX11_mix_0 : decode cX11_mix 0 = .ok (.ldc2_w 323, 3) := by decide +kernel
theorem dX11_mix_3 : decode cX11_mix 3 = .ok (.lload_n 0, 1) := by decide +kernel
theorem dX11_mix_4 : decode cX11_mix 4 = .ok (.lmul, 1) := by decide +kernel
theorem dX11_mix_5 : decode cX11_mix 5 = .ok (.lload_n 2, 1) := by decide +kernel
theorem dX11_mix_6 : decode cX11_mix 6 = .ok (.ladd, 1) := by decide +kernel
theorem dX11_mix_7 : decode cX11_mix 7 = .ok (.lreturn, 1) := by decide +kernel
theorem dX11_isOutside_0 : decode cX11_isOutside 0 = .ok (.iload_n 0, 1) := by decide +kernel
theorem dX11_isOutside_1 : decode cX11_isOutside 1 = .ok (.iload_n 1, 1) := by decide +kernel
theorem dX11_isOutside_2 : decode cX11_isOutside 2 = .ok (.if_icmp .lt 8, 3) := by decide +kernel
theorem dX11_isOutside_5 : decode cX11_isOutside 5 = .ok (.iload_n 0, 1) := by decide +kernel
theorem dX11_isOutside_6 : decode cX11_isOutside 6 = .ok (.iload_n 2, 1) := by decide +kernel
theorem dX11_isOutside_7 : decode cX11_isOutside 7 = .ok (.if_icmp .le 7, 3) := by decide +kernel
theorem dX11_isOutside_10 : decode cX11_isOutside 10 = .ok (.iconst 1, 1) := by decide +kernel
theorem dX11_isOutside_11 : decode cX11_isOutside 11 = .ok (.goto 4, 3) := by decide +kernel
theorem dX11_isOutside_14 : decode cX11_isOutside 14 = .ok (.iconst 0, 1) := by decide +kernel
theorem dX11_isOutside_15 : decode cX11_isOutside 15 = .ok (.ireturn, 1) := by decide +kernel
theorem dX11_faultOfTicks_0 : decode cX11_faultOfTicks 0 = .ok (.iload_n 0, 1) := by decide +kernel
theorem dX11_faultOfTicks_1 : decode cX11_faultOfTicks 1 = .ok (.iconst 1, 1) := by decide +kernel
theorem dX11_faultOfTicks_2 : decode cX11_faultOfTicks 2 = .ok (.sipush 200, 3) := by decide +kernel
theorem dX11_faultOfTicks_5 : decode cX11_faultOfTicks 5 = .ok (.invokestatic 62, 3) := by decide +kernel
theorem dX11_faultOfTicks_8 : decode cX11_faultOfTicks 8 = .ok (.ifCond .eq 7, 3) := by decide +kernel
theorem dX11_faultOfTicks_11 : decode cX11_faultOfTicks 11 = .ok (.iconst 2, 1) := by decide +kernel
theorem dX11_faultOfTicks_12 : decode cX11_faultOfTicks 12 = .ok (.goto 4, 3) := by decide +kernel
theorem dX11_faultOfTicks_15 : decode cX11_faultOfTicks 15 = .ok (.iconst 0, 1) := by decide +kernel
theorem dX11_faultOfTicks_16 : decode cX11_faultOfTicks 16 = .ok (.ireturn, 1) := by decide +kernel
theorem dX11_throwFor_0 : decode cX11_throwFor 0 = .ok (.iload_n 0, 1) := by decide +kernel
theorem dX11_throwFor_1 : decode cX11_throwFor 1 = .ok (.iconst 1, 1) := by decide +kernel
theorem dX11_throwFor_2 : decode cX11_throwFor 2 = .ok (.if_icmp .ne 14, 3) := by decide +kernel
theorem dX11_throwFor_5 : decode cX11_throwFor 5 = .ok (.new 150, 3) := by decide +kernel
theorem dX11_throwFor_8 : decode cX11_throwFor 8 = .ok (.dup, 1) := by decide +kernel
theorem dX11_throwFor_9 : decode cX11_throwFor 9 = .ok (.ldc_w 325, 3) := by decide +kernel
theorem dX11_throwFor_12 : decode cX11_throwFor 12 = .ok (.invokespecial 154, 3) := by decide +kernel
theorem dX11_throwFor_15 : decode cX11_throwFor 15 = .ok (.athrow, 1) := by decide +kernel
theorem dX11_throwFor_16 : decode cX11_throwFor 16 = .ok (.iload_n 0, 1) := by decide +kernel
theorem dX11_throwFor_17 : decode cX11_throwFor 17 = .ok (.iconst 2, 1) := by decide +kernel
theorem dX11_throwFor_18 : decode cX11_throwFor 18 = .ok (.if_icmp .ne 14, 3) := by decide +kernel
theorem dX11_throwFor_21 : decode cX11_throwFor 21 = .ok (.new 66, 3) := by decide +kernel
theorem dX11_throwFor_24 : decode cX11_throwFor 24 = .ok (.dup, 1) := by decide +kernel
theorem dX11_throwFor_25 : decode cX11_throwFor 25 = .ok (.ldc_w 327, 3) := by decide +kernel
theorem dX11_throwFor_28 : decode cX11_throwFor 28 = .ok (.invokespecial 70, 3) := by decide +kernel
theorem dX11_throwFor_31 : decode cX11_throwFor 31 = .ok (.athrow, 1) := by decide +kernel
theorem dX11_throwFor_32 : decode cX11_throwFor 32 = .ok (.iload_n 0, 1) := by decide +kernel
theorem dX11_throwFor_33 : decode cX11_throwFor 33 = .ok (.iconst 3, 1) := by decide +kernel
theorem dX11_throwFor_34 : decode cX11_throwFor 34 = .ok (.if_icmp .ne 14, 3) := by decide +kernel
theorem dX11_throwFor_37 : decode cX11_throwFor 37 = .ok (.new 162, 3) := by decide +kernel
theorem dX11_throwFor_40 : decode cX11_throwFor 40 = .ok (.dup, 1) := by decide +kernel
theorem dX11_throwFor_41 : decode cX11_throwFor 41 = .ok (.ldc_w 329, 3) := by decide +kernel
theorem dX11_throwFor_44 : decode cX11_throwFor 44 = .ok (.invokespecial 166, 3) := by decide +kernel
theorem dX11_throwFor_47 : decode cX11_throwFor 47 = .ok (.athrow, 1) := by decide +kernel
theorem dX11_throwFor_48 : decode cX11_throwFor 48 = .ok (.return_, 1) := by decide +kernel
theorem dX11_passTicks_0 : decode cX11_passTicks 0 = .ok (.iconst 0, 1) := by decide +kernel
theorem dX11_passTicks_1 : decode cX11_passTicks 1 = .ok (.istore_n 2, 1) := by decide +kernel
theorem dX11_passTicks_2 : decode cX11_passTicks 2 = .ok (.iload_n 2, 1) := by decide +kernel
theorem dX11_passTicks_3 : decode cX11_passTicks 3 = .ok (.iload_n 1, 1) := by decide +kernel
theorem dX11_passTicks_4 : decode cX11_passTicks 4 = .ok (.if_icmp .ge 91, 3) := by decide +kernel
theorem dX11_passTicks_7 : decode cX11_passTicks 7 = .ok (.aload_n 0, 1) := by decide +kernel
theorem dX11_passTicks_8 : decode cX11_passTicks 8 = .ok (.getfield 12, 3) := by decide +kernel
theorem dX11_passTicks_11 : decode cX11_passTicks 11 = .ok (.dup, 1) := by decide +kernel
theorem dX11_passTicks_12 : decode cX11_passTicks 12 = .ok (.getfield 173, 3) := by decide +kernel
theorem dX11_passTicks_15 : decode cX11_passTicks 15 = .ok (.iconst 1, 1) := by decide +kernel
theorem dX11_passTicks_16 : decode cX11_passTicks 16 = .ok (.iadd, 1) := by decide +kernel
theorem dX11_passTicks_17 : decode cX11_passTicks 17 = .ok (.putfield 173, 3) := by decide +kernel
theorem dX11_passTicks_20 : decode cX11_passTicks 20 = .ok (.aload_n 0, 1) := by decide +kernel
theorem dX11_passTicks_21 : decode cX11_passTicks 21 = .ok (.getfield 12, 3) := by decide +kernel
theorem dX11_passTicks_24 : decode cX11_passTicks 24 = .ok (.invokevirtual 331, 3) := by decide +kernel
theorem dX11_passTicks_27 : decode cX11_passTicks 27 = .ok (.ifCond .eq 10, 3) := by decide +kernel
theorem dX11_passTicks_30 : decode cX11_passTicks 30 = .ok (.aload_n 0, 1) := by decide +kernel
theorem dX11_passTicks_31 : decode cX11_passTicks 31 = .ok (.getfield 12, 3) := by decide +kernel
theorem dX11_passTicks_34 : decode cX11_passTicks 34 = .ok (.invokestatic 334, 3) := by decide +kernel
theorem dX11_passTicks_37 : decode cX11_passTicks 37 = .ok (.aload_n 0, 1) := by decide +kernel
theorem dX11_passTicks_38 : decode cX11_passTicks 38 = .ok (.getfield 37, 3) := by decide +kernel
theorem dX11_passTicks_41 : decode cX11_passTicks 41 = .ok (.aload_n 0, 1) := by decide +kernel
theorem dX11_passTicks_42 : decode cX11_passTicks 42 = .ok (.getfield 12, 3) := by decide +kernel
theorem dX11_passTicks_45 : decode cX11_passTicks 45 = .ok (.invokevirtual 339, 3) := by decide +kernel
theorem dX11_passTicks_48 : decode cX11_passTicks 48 = .ok (.aload_n 0, 1) := by decide +kernel
theorem dX11_passTicks_49 : decode cX11_passTicks 49 = .ok (.getfield 44, 3) := by decide +kernel
theorem dX11_passTicks_52 : decode cX11_passTicks 52 = .ok (.aload_n 0, 1) := by decide +kernel
theorem dX11_passTicks_53 : decode cX11_passTicks 53 = .ok (.getfield 12, 3) := by decide +kernel
theorem dX11_passTicks_56 : decode cX11_passTicks 56 = .ok (.invokevirtual 342, 3) := by decide +kernel
theorem dX11_passTicks_59 : decode cX11_passTicks 59 = .ok (.ifCond .eq 30, 3) := by decide +kernel
theorem dX11_passTicks_62 : decode cX11_passTicks 62 = .ok (.aload_n 0, 1) := by decide +kernel
theorem dX11_passTicks_63 : decode cX11_passTicks 63 = .ok (.getfield 58, 3) := by decide +kernel
theorem dX11_passTicks_66 : decode cX11_passTicks 66 = .ok (.aload_n 0, 1) := by decide +kernel
theorem dX11_passTicks_67 : decode cX11_passTicks 67 = .ok (.getfield 12, 3) := by decide +kernel
theorem dX11_passTicks_70 : decode cX11_passTicks 70 = .ok (.invokevirtual 244, 3) := by decide +kernel
theorem dX11_passTicks_73 : decode cX11_passTicks 73 = .ok (.pop, 1) := by decide +kernel
theorem dX11_passTicks_74 : decode cX11_passTicks 74 = .ok (.aload_n 0, 1) := by decide +kernel
theorem dX11_passTicks_75 : decode cX11_passTicks 75 = .ok (.getfield 44, 3) := by decide +kernel
theorem dX11_passTicks_78 : decode cX11_passTicks 78 = .ok (.aload_n 0, 1) := by decide +kernel
theorem dX11_passTicks_79 : decode cX11_passTicks 79 = .ok (.getfield 12, 3) := by decide +kernel
theorem dX11_passTicks_82 : decode cX11_passTicks 82 = .ok (.aload_n 0, 1) := by decide +kernel
theorem dX11_passTicks_83 : decode cX11_passTicks 83 = .ok (.getfield 58, 3) := by decide +kernel
theorem dX11_passTicks_86 : decode cX11_passTicks 86 = .ok (.invokevirtual 344, 3) := by decide +kernel
theorem dX11_passTicks_89 : decode cX11_passTicks 89 = .ok (.iinc 2 1, 3) := by decide +kernel
theorem dX11_passTicks_92 : decode cX11_passTicks 92 = .ok (.goto (-90), 3) := by decide +kernel
theorem dX11_passTicks_95 : decode cX11_passTicks 95 = .ok (.return_, 1) := by decide +kernel
theorem dX11_carryOut_0 : decode cX11_carryOut 0 = .ok (.aload_n 0, 1) := by decide +kernel
theorem dX11_carryOut_1 : decode cX11_carryOut 1 = .ok (.getfield 30, 3) := by decide +kernel
theorem dX11_carryOut_4 : decode cX11_carryOut 4 = .ok (.getfield 348, 3) := by decide +kernel
theorem dX11_carryOut_7 : decode cX11_carryOut 7 = .ok (.iconst 0, 1) := by decide +kernel
theorem dX11_carryOut_8 : decode cX11_carryOut 8 = .ok (.iaload, 1) := by decide +kernel
theorem dX11_carryOut_9 : decode cX11_carryOut 9 = .ok (.istore_n 1, 1) := by decide +kernel
theorem dX11_carryOut_10 : decode cX11_carryOut 10 = .ok (.aload_n 0, 1) := by decide +kernel
theorem dX11_carryOut_11 : decode cX11_carryOut 11 = .ok (.getfield 30, 3) := by decide +kernel
theorem dX11_carryOut_14 : decode cX11_carryOut 14 = .ok (.getfield 348, 3) := by decide +kernel
theorem dX11_carryOut_17 : decode cX11_carryOut 17 = .ok (.iconst 1, 1) := by decide +kernel
theorem dX11_carryOut_18 : decode cX11_carryOut 18 = .ok (.iaload, 1) := by decide +kernel
theorem dX11_carryOut_19 : decode cX11_carryOut 19 = .ok (.istore_n 2, 1) := by decide +kernel
theorem dX11_carryOut_20 : decode cX11_carryOut 20 = .ok (.aload_n 0, 1) := by decide +kernel
theorem dX11_carryOut_21 : decode cX11_carryOut 21 = .ok (.getfield 30, 3) := by decide +kernel
theorem dX11_carryOut_24 : decode cX11_carryOut 24 = .ok (.getfield 348, 3) := by decide +kernel
theorem dX11_carryOut_27 : decode cX11_carryOut 27 = .ok (.iconst 2, 1) := by decide +kernel
theorem dX11_carryOut_28 : decode cX11_carryOut 28 = .ok (.iaload, 1) := by decide +kernel
theorem dX11_carryOut_29 : decode cX11_carryOut 29 = .ok (.istore_n 3, 1) := by decide +kernel
theorem dX11_carryOut_30 : decode cX11_carryOut 30 = .ok (.aload_n 0, 1) := by decide +kernel
theorem dX11_carryOut_31 : decode cX11_carryOut 31 = .ok (.iload_n 1, 1) := by decide +kernel
theorem dX11_carryOut_32 : decode cX11_carryOut 32 = .ok (.iload_n 2, 1) := by decide +kernel
theorem dX11_carryOut_33 : decode cX11_carryOut 33 = .ok (.iload_n 3, 1) := by decide +kernel
theorem dX11_carryOut_34 : decode cX11_carryOut 34 = .ok (.invokevirtual 351, 3) := by decide +kernel
theorem dX11_carryOut_37 : decode cX11_carryOut 37 = .ok (.ifCond .eq 5, 3) := by decide +kernel
theorem dX11_carryOut_40 : decode cX11_carryOut 40 = .ok (.iconst 0, 1) := by decide +kernel
theorem dX11_carryOut_41 : decode cX11_carryOut 41 = .ok (.ireturn, 1) := by decide +kernel
theorem dX11_carryOut_42 : decode cX11_carryOut 42 = .ok (.aload_n 0, 1) := by decide +kernel
theorem dX11_carryOut_43 : decode cX11_carryOut 43 = .ok (.getfield 30, 3) := by decide +kernel
theorem dX11_carryOut_46 : decode cX11_carryOut 46 = .ok (.getfield 354, 3) := by decide +kernel
theorem dX11_carryOut_49 : decode cX11_carryOut 49 = .ok (.tableswitch 132 0 5 #[39, 56, 73, 85, 100, 116], 39) := by decide +kernel
theorem dX11_carryOut_88 : decode cX11_carryOut 88 = .ok (.aload_n 0, 1) := by decide +kernel
theorem dX11_carryOut_89 : decode cX11_carryOut 89 = .ok (.getfield 12, 3) := by decide +kernel
theorem dX11_carryOut_92 : decode cX11_carryOut 92 = .ok (.getfield 112, 3) := by decide +kernel
theorem dX11_carryOut_95 : decode cX11_carryOut 95 = .ok (.iload_n 1, 1) := by decide +kernel
theorem dX11_carryOut_96 : decode cX11_carryOut 96 = .ok (.iload_n 2, 1) := by decide +kernel
theorem dX11_carryOut_97 : decode cX11_carryOut 97 = .ok (.iload_n 3, 1) := by decide +kernel
theorem dX11_carryOut_98 : decode cX11_carryOut 98 = .ok (.invokevirtual 116, 3) := by decide +kernel
theorem dX11_carryOut_101 : decode cX11_carryOut 101 = .ok (.pop, 1) := by decide +kernel
theorem dX11_carryOut_102 : decode cX11_carryOut 102 = .ok (.goto 84, 3) := by decide +kernel
theorem dX11_carryOut_105 : decode cX11_carryOut 105 = .ok (.aload_n 0, 1) := by decide +kernel
theorem dX11_carryOut_106 : decode cX11_carryOut 106 = .ok (.getfield 12, 3) := by decide +kernel
theorem dX11_carryOut_109 : decode cX11_carryOut 109 = .ok (.getfield 141, 3) := by decide +kernel
theorem dX11_carryOut_112 : decode cX11_carryOut 112 = .ok (.iload_n 1, 1) := by decide +kernel
theorem dX11_carryOut_113 : decode cX11_carryOut 113 = .ok (.iload_n 2, 1) := by decide +kernel
theorem dX11_carryOut_114 : decode cX11_carryOut 114 = .ok (.iload_n 3, 1) := by decide +kernel
theorem dX11_carryOut_115 : decode cX11_carryOut 115 = .ok (.invokevirtual 145, 3) := by decide +kernel
theorem dX11_carryOut_118 : decode cX11_carryOut 118 = .ok (.pop, 1) := by decide +kernel
theorem dX11_carryOut_119 : decode cX11_carryOut 119 = .ok (.goto 67, 3) := by decide +kernel
theorem dX11_carryOut_122 : decode cX11_carryOut 122 = .ok (.aload_n 0, 1) := by decide +kernel
theorem dX11_carryOut_123 : decode cX11_carryOut 123 = .ok (.getfield 12, 3) := by decide +kernel
theorem dX11_carryOut_126 : decode cX11_carryOut 126 = .ok (.iload_n 1, 1) := by decide +kernel
theorem dX11_carryOut_127 : decode cX11_carryOut 127 = .ok (.invokevirtual 125, 3) := by decide +kernel
theorem dX11_carryOut_130 : decode cX11_carryOut 130 = .ok (.pop, 1) := by decide +kernel
theorem dX11_carryOut_131 : decode cX11_carryOut 131 = .ok (.goto 55, 3) := by decide +kernel
theorem dX11_carryOut_134 : decode cX11_carryOut 134 = .ok (.aload_n 0, 1) := by decide +kernel
theorem dX11_carryOut_135 : decode cX11_carryOut 135 = .ok (.getfield 12, 3) := by decide +kernel
theorem dX11_carryOut_138 : decode cX11_carryOut 138 = .ok (.getfield 112, 3) := by decide +kernel
theorem dX11_carryOut_141 : decode cX11_carryOut 141 = .ok (.iload_n 1, 1) := by decide +kernel
theorem dX11_carryOut_142 : decode cX11_carryOut 142 = .ok (.invokevirtual 129, 3) := by decide +kernel
theorem dX11_carryOut_145 : decode cX11_carryOut 145 = .ok (.pop, 1) := by decide +kernel
theorem dX11_carryOut_146 : decode cX11_carryOut 146 = .ok (.goto 40, 3) := by decide +kernel
theorem dX11_carryOut_149 : decode cX11_carryOut 149 = .ok (.aload_n 0, 1) := by decide +kernel
theorem dX11_carryOut_150 : decode cX11_carryOut 150 = .ok (.getfield 12, 3) := by decide +kernel
theorem dX11_carryOut_153 : decode cX11_carryOut 153 = .ok (.getfield 99, 3) := by decide +kernel
theorem dX11_carryOut_156 : decode cX11_carryOut 156 = .ok (.iload_n 1, 1) := by decide +kernel
theorem dX11_carryOut_157 : decode cX11_carryOut 157 = .ok (.iload_n 2, 1) := by decide +kernel
theorem dX11_carryOut_158 : decode cX11_carryOut 158 = .ok (.invokevirtual 103, 3) := by decide +kernel
theorem dX11_carryOut_161 : decode cX11_carryOut 161 = .ok (.pop, 1) := by decide +kernel
theorem dX11_carryOut_162 : decode cX11_carryOut 162 = .ok (.goto 24, 3) := by decide +kernel
theorem dX11_carryOut_165 : decode cX11_carryOut 165 = .ok (.aload_n 0, 1) := by decide +kernel
theorem dX11_carryOut_166 : decode cX11_carryOut 166 = .ok (.getfield 12, 3) := by decide +kernel
theorem dX11_carryOut_169 : decode cX11_carryOut 169 = .ok (.getfield 99, 3) := by decide +kernel
theorem dX11_carryOut_172 : decode cX11_carryOut 172 = .ok (.iload_n 1, 1) := by decide +kernel
theorem dX11_carryOut_173 : decode cX11_carryOut 173 = .ok (.iload_n 2, 1) := by decide +kernel
theorem dX11_carryOut_174 : decode cX11_carryOut 174 = .ok (.invokevirtual 135, 3) := by decide +kernel
theorem dX11_carryOut_177 : decode cX11_carryOut 177 = .ok (.pop, 1) := by decide +kernel
theorem dX11_carryOut_178 : decode cX11_carryOut 178 = .ok (.goto 8, 3) := by decide +kernel
theorem dX11_carryOut_181 : decode cX11_carryOut 181 = .ok (.aload_n 0, 1) := by decide +kernel
theorem dX11_carryOut_182 : decode cX11_carryOut 182 = .ok (.iload_n 1, 1) := by decide +kernel
theorem dX11_carryOut_183 : decode cX11_carryOut 183 = .ok (.invokevirtual 170, 3) := by decide +kernel
theorem dX11_carryOut_186 : decode cX11_carryOut 186 = .ok (.iconst 1, 1) := by decide +kernel
theorem dX11_carryOut_187 : decode cX11_carryOut 187 = .ok (.ireturn, 1) := by decide +kernel
theorem dX11_faultOfCommand_0 : decode cX11_faultOfCommand 0 = .ok (.aload_n 0, 1) := by decide +kernel
theorem dX11_faultOfCommand_1 : decode cX11_faultOfCommand 1 = .ok (.getfield 30, 3) := by decide +kernel
theorem dX11_faultOfCommand_4 : decode cX11_faultOfCommand 4 = .ok (.getfield 354, 3) := by decide +kernel
theorem dX11_faultOfCommand_7 : decode cX11_faultOfCommand 7 = .ok (.tableswitch 99 0 5 #[37, 48, 59, 69, 79, 89], 37) := by decide +kernel
theorem dX11_faultOfCommand_44 : decode cX11_faultOfCommand 44 = .ok (.aload_n 0, 1) := by decide +kernel
theorem dX11_faultOfCommand_45 : decode cX11_faultOfCommand 45 = .ok (.getfield 12, 3) := by decide +kernel
theorem dX11_faultOfCommand_48 : decode cX11_faultOfCommand 48 = .ok (.iload_n 1, 1) := by decide +kernel
theorem dX11_faultOfCommand_49 : decode cX11_faultOfCommand 49 = .ok (.iload_n 2, 1) := by decide +kernel
theorem dX11_faultOfCommand_50 : decode cX11_faultOfCommand 50 = .ok (.iload_n 3, 1) := by decide +kernel
theorem dX11_faultOfCommand_51 : decode cX11_faultOfCommand 51 = .ok (.invokevirtual 108, 3) := by decide +kernel
theorem dX11_faultOfCommand_54 : decode cX11_faultOfCommand 54 = .ok (.ireturn, 1) := by decide +kernel
theorem dX11_faultOfCommand_55 : decode cX11_faultOfCommand 55 = .ok (.aload_n 0, 1) := by decide +kernel
theorem dX11_faultOfCommand_56 : decode cX11_faultOfCommand 56 = .ok (.getfield 12, 3) := by decide +kernel
theorem dX11_faultOfCommand_59 : decode cX11_faultOfCommand 59 = .ok (.iload_n 1, 1) := by decide +kernel
theorem dX11_faultOfCommand_60 : decode cX11_faultOfCommand 60 = .ok (.iload_n 2, 1) := by decide +kernel
theorem dX11_faultOfCommand_61 : decode cX11_faultOfCommand 61 = .ok (.iload_n 3, 1) := by decide +kernel
theorem dX11_faultOfCommand_62 : decode cX11_faultOfCommand 62 = .ok (.invokevirtual 138, 3) := by decide +kernel
theorem dX11_faultOfCommand_65 : decode cX11_faultOfCommand 65 = .ok (.ireturn, 1) := by decide +kernel
theorem dX11_faultOfCommand_66 : decode cX11_faultOfCommand 66 = .ok (.aload_n 0, 1) := by decide +kernel
theorem dX11_faultOfCommand_67 : decode cX11_faultOfCommand 67 = .ok (.getfield 12, 3) := by decide +kernel
theorem dX11_faultOfCommand_70 : decode cX11_faultOfCommand 70 = .ok (.iload_n 1, 1) := by decide +kernel
theorem dX11_faultOfCommand_71 : decode cX11_faultOfCommand 71 = .ok (.iconst 1, 1) := by decide +kernel
theorem dX11_faultOfCommand_72 : decode cX11_faultOfCommand 72 = .ok (.invokevirtual 121, 3) := by decide +kernel
theorem dX11_faultOfCommand_75 : decode cX11_faultOfCommand 75 = .ok (.ireturn, 1) := by decide +kernel
theorem dX11_faultOfCommand_76 : decode cX11_faultOfCommand 76 = .ok (.aload_n 0, 1) := by decide +kernel
theorem dX11_faultOfCommand_77 : decode cX11_faultOfCommand 77 = .ok (.getfield 12, 3) := by decide +kernel
theorem dX11_faultOfCommand_80 : decode cX11_faultOfCommand 80 = .ok (.iload_n 1, 1) := by decide +kernel
theorem dX11_faultOfCommand_81 : decode cX11_faultOfCommand 81 = .ok (.iconst 0, 1) := by decide +kernel
theorem dX11_faultOfCommand_82 : decode cX11_faultOfCommand 82 = .ok (.invokevirtual 121, 3) := by decide +kernel
theorem dX11_faultOfCommand_85 : decode cX11_faultOfCommand 85 = .ok (.ireturn, 1) := by decide +kernel
theorem dX11_faultOfCommand_86 : decode cX11_faultOfCommand 86 = .ok (.aload_n 0, 1) := by decide +kernel
theorem dX11_faultOfCommand_87 : decode cX11_faultOfCommand 87 = .ok (.getfield 12, 3) := by decide +kernel
theorem dX11_faultOfCommand_90 : decode cX11_faultOfCommand 90 = .ok (.iload_n 1, 1) := by decide +kernel
theorem dX11_faultOfCommand_91 : decode cX11_faultOfCommand 91 = .ok (.iload_n 2, 1) := by decide +kernel
theorem dX11_faultOfCommand_92 : decode cX11_faultOfCommand 92 = .ok (.invokevirtual 92, 3) := by decide +kernel
theorem dX11_faultOfCommand_95 : decode cX11_faultOfCommand 95 = .ok (.ireturn, 1) := by decide +kernel
theorem dX11_faultOfCommand_96 : decode cX11_faultOfCommand 96 = .ok (.aload_n 0, 1) := by decide +kernel
theorem dX11_faultOfCommand_97 : decode cX11_faultOfCommand 97 = .ok (.getfield 12, 3) := by decide +kernel
theorem dX11_faultOfCommand_100 : decode cX11_faultOfCommand 100 = .ok (.iload_n 1, 1) := by decide +kernel
theorem dX11_faultOfCommand_101 : decode cX11_faultOfCommand 101 = .ok (.iload_n 2, 1) := by decide +kernel
theorem dX11_faultOfCommand_102 : decode cX11_faultOfCommand 102 = .ok (.invokevirtual 132, 3) := by decide +kernel
theorem dX11_faultOfCommand_105 : decode cX11_faultOfCommand 105 = .ok (.ireturn, 1) := by decide +kernel
theorem dX11_faultOfCommand_106 : decode cX11_faultOfCommand 106 = .ok (.iload_n 1, 1) := by decide +kernel
theorem dX11_faultOfCommand_107 : decode cX11_faultOfCommand 107 = .ok (.invokestatic 167, 3) := by decide +kernel
theorem dX11_faultOfCommand_110 : decode cX11_faultOfCommand 110 = .ok (.ireturn, 1) := by decide +kernel
theorem dX12_init_0 : decode cX12_init 0 = .ok (.aload_n 0, 1) := by decide +kernel
theorem dX12_init_1 : decode cX12_init 1 = .ok (.invokespecial 1, 3) := by decide +kernel
theorem dX12_init_4 : decode cX12_init 4 = .ok (.aload_n 0, 1) := by decide +kernel
theorem dX12_init_5 : decode cX12_init 5 = .ok (.sipush 487, 3) := by decide +kernel
theorem dX12_init_8 : decode cX12_init 8 = .ok (.newarray .int, 2) := by decide +kernel
theorem dX12_init_10 : decode cX12_init 10 = .ok (.putfield 7, 3) := by decide +kernel
theorem dX12_init_13 : decode cX12_init 13 = .ok (.aload_n 0, 1) := by decide +kernel
theorem dX12_init_14 : decode cX12_init 14 = .ok (.sipush 1461, 3) := by decide +kernel
theorem dX12_init_17 : decode cX12_init 17 = .ok (.newarray .int, 2) := by decide +kernel
theorem dX12_init_19 : decode cX12_init 19 = .ok (.putfield 13, 3) := by decide +kernel
theorem dX12_init_22 : decode cX12_init 22 = .ok (.aload_n 0, 1) := by decide +kernel
theorem dX12_init_23 : decode cX12_init 23 = .ok (.sipush 487, 3) := by decide +kernel
theorem dX12_init_26 : decode cX12_init 26 = .ok (.newarray .int, 2) := by decide +kernel
theorem dX12_init_28 : decode cX12_init 28 = .ok (.putfield 16, 3) := by decide +kernel
theorem dX12_init_31 : decode cX12_init 31 = .ok (.aload_n 0, 1) := by decide +kernel
theorem dX12_init_32 : decode cX12_init 32 = .ok (.bipush 120, 2) := by decide +kernel
theorem dX12_init_34 : decode cX12_init 34 = .ok (.newarray .int, 2) := by decide +kernel
theorem dX12_init_36 : decode cX12_init 36 = .ok (.putfield 19, 3) := by decide +kernel
theorem dX12_init_39 : decode cX12_init 39 = .ok (.aload_n 0, 1) := by decide +kernel
theorem dX12_init_40 : decode cX12_init 40 = .ok (.bipush 32, 2) := by decide +kernel
theorem dX12_init_42 : decode cX12_init 42 = .ok (.newarray .int, 2) := by decide +kernel
theorem dX12_init_44 : decode cX12_init 44 = .ok (.putfield 22, 3) := by decide +kernel
theorem dX12_init_47 : decode cX12_init 47 = .ok (.aload_n 0, 1) := by decide +kernel
theorem dX12_init_48 : decode cX12_init 48 = .ok (.bipush 8, 2) := by decide +kernel
theorem dX12_init_50 : decode cX12_init 50 = .ok (.newarray .int, 2) := by decide +kernel
theorem dX12_init_52 : decode cX12_init 52 = .ok (.putfield 25, 3) := by decide +kernel
theorem dX12_init_55 : decode cX12_init 55 = .ok (.aload_n 0, 1) := by decide +kernel
theorem dX12_init_56 : decode cX12_init 56 = .ok (.bipush 8, 2) := by decide +kernel
theorem dX12_init_58 : decode cX12_init 58 = .ok (.newarray .int, 2) := by decide +kernel
theorem dX12_init_60 : decode cX12_init 60 = .ok (.putfield 28, 3) := by decide +kernel
theorem dX12_init_63 : decode cX12_init 63 = .ok (.aload_n 0, 1) := by decide +kernel
theorem dX12_init_64 : decode cX12_init 64 = .ok (.iconst 3, 1) := by decide +kernel
theorem dX12_init_65 : decode cX12_init 65 = .ok (.newarray .int, 2) := by decide +kernel
theorem dX12_init_67 : decode cX12_init 67 = .ok (.putfield 31, 3) := by decide +kernel
theorem dX12_init_70 : decode cX12_init 70 = .ok (.aload_n 0, 1) := by decide +kernel
theorem dX12_init_71 : decode cX12_init 71 = .ok (.getfield 7, 3) := by decide +kernel
theorem dX12_init_74 : decode cX12_init 74 = .ok (.iconst 2, 1) := by decide +kernel
theorem dX12_init_75 : decode cX12_init 75 = .ok (.iconst 3, 1) := by decide +kernel
theorem dX12_init_76 : decode cX12_init 76 = .ok (.iastore, 1) := by decide +kernel
theorem dX12_init_77 : decode cX12_init 77 = .ok (.aload_n 0, 1) := by decide +kernel
theorem dX12_init_78 : decode cX12_init 78 = .ok (.getfield 7, 3) := by decide +kernel
theorem dX12_init_81 : decode cX12_init 81 = .ok (.iconst 3, 1) := by decide +kernel
theorem dX12_init_82 : decode cX12_init 82 = .ok (.bipush 10, 2) := by decide +kernel
theorem dX12_init_84 : decode cX12_init 84 = .ok (.iastore, 1) := by decide +kernel
theorem dX12_init_85 : decode cX12_init 85 = .ok (.aload_n 0, 1) := by decide +kernel
theorem dX12_init_86 : decode cX12_init 86 = .ok (.getfield 7, 3) := by decide +kernel
theorem dX12_init_89 : decode cX12_init 89 = .ok (.iconst 4, 1) := by decide +kernel
theorem dX12_init_90 : decode cX12_init 90 = .ok (.iconst 5, 1) := by decide +kernel
theorem dX12_init_91 : decode cX12_init 91 = .ok (.iastore, 1) := by decide +kernel
theorem dX12_init_92 : decode cX12_init 92 = .ok (.aload_n 0, 1) := by decide +kernel
theorem dX12_init_93 : decode cX12_init 93 = .ok (.iconst 4, 1) := by decide +kernel
theorem dX12_init_94 : decode cX12_init 94 = .ok (.invokevirtual 34, 3) := by decide +kernel
theorem dX12_init_97 : decode cX12_init 97 = .ok (.return_, 1) := by decide +kernel
theorem dX12_thrown_0 : decode cX12_thrown 0 = .ok (.aload_n 0, 1) := by decide +kernel
theorem dX12_thrown_1 : decode cX12_thrown 1 = .ok (.getfield 38, 3) := by decide +kernel
theorem dX12_thrown_4 : decode cX12_thrown 4 = .ok (.ireturn, 1) := by decide +kernel
theorem dX12_in_0 : decode cX12_in 0 = .ok (.iload_n 0, 1) := by decide +kernel
theorem dX12_in_1 : decode cX12_in 1 = .ok (.iload_n 1, 1) := by decide +kernel
theorem dX12_in_2 : decode cX12_in 2 = .ok (.if_icmp .lt 12, 3) := by decide +kernel
theorem dX12_in_5 : decode cX12_in 5 = .ok (.iload_n 0, 1) := by decide +kernel
theorem dX12_in_6 : decode cX12_in 6 = .ok (.iload_n 2, 1) := by decide +kernel
theorem dX12_in_7 : decode cX12_in 7 = .ok (.if_icmp .gt 7, 3) := by decide +kernel
theorem dX12_in_10 : decode cX12_in 10 = .ok (.iconst 1, 1) := by decide +kernel
theorem dX12_in_11 : decode cX12_in 11 = .ok (.goto 4, 3) := by decide +kernel
theorem dX12_in_14 : decode cX12_in 14 = .ok (.iconst 0, 1) := by decide +kernel
theorem dX12_in_15 : decode cX12_in 15 = .ok (.ireturn, 1) := by decide +kernel
theorem dX12_fails_0 : decode cX12_fails 0 = .ok (.aload_n 0, 1) := by decide +kernel
theorem dX12_fails_1 : decode cX12_fails 1 = .ok (.iload_n 1, 1) := by decide +kernel
theorem dX12_fails_2 : decode cX12_fails 2 = .ok (.putfield 38, 3) := by decide +kernel
theorem dX12_fails_5 : decode cX12_fails 5 = .ok (.iconst 0, 1) := by decide +kernel
theorem dX12_fails_6 : decode cX12_fails 6 = .ok (.ireturn, 1) := by decide +kernel
theorem dX12_tells_0 : decode cX12_tells 0 = .ok (.aload_n 0, 1) := by decide +kernel
theorem dX12_tells_1 : decode cX12_tells 1 = .ok (.iconst 0, 1) := by decide +kernel
theorem dX12_tells_2 : decode cX12_tells 2 = .ok (.putfield 38, 3) := by decide +kernel
theorem dX12_tells_5 : decode cX12_tells 5 = .ok (.iload_n 1, 1) := by decide +kernel
theorem dX12_tells_6 : decode cX12_tells 6 = .ok (.ireturn, 1) := by decide +kernel
theorem dX12_hold_0 : decode cX12_hold 0 = .ok (.iconst 0, 1) := by decide +kernel
theorem dX12_hold_1 : decode cX12_hold 1 = .ok (.istore_n 1, 1) := by decide +kernel
theorem dX12_hold_2 : decode cX12_hold 2 = .ok (.iload_n 1, 1) := by decide +kernel
theorem dX12_hold_3 : decode cX12_hold 3 = .ok (.sipush 487, 3) := by decide +kernel
theorem dX12_hold_6 : decode cX12_hold 6 = .ok (.if_icmp .ge 21, 3) := by decide +kernel
theorem dX12_hold_9 : decode cX12_hold 9 = .ok (.aload_n 0, 1) := by decide +kernel
theorem dX12_hold_10 : decode cX12_hold 10 = .ok (.getfield 16, 3) := by decide +kernel
theorem dX12_hold_13 : decode cX12_hold 13 = .ok (.iload_n 1, 1) := by decide +kernel
theorem dX12_hold_14 : decode cX12_hold 14 = .ok (.aload_n 0, 1) := by decide +kernel
theorem dX12_hold_15 : decode cX12_hold 15 = .ok (.getfield 7, 3) := by decide +kernel
theorem dX12_hold_18 : decode cX12_hold 18 = .ok (.iload_n 1, 1) := by decide +kernel
theorem dX12_hold_19 : decode cX12_hold 19 = .ok (.iaload, 1) := by decide +kernel
theorem dX12_hold_20 : decode cX12_hold 20 = .ok (.iastore, 1) := by decide +kernel
theorem dX12_hold_21 : decode cX12_hold 21 = .ok (.iinc 1 1, 3) := by decide +kernel
theorem dX12_hold_24 : decode cX12_hold 24 = .ok (.goto (-22), 3) := by decide +kernel
theorem dX12_hold_27 : decode cX12_hold 27 = .ok (.return_, 1) := by decide +kernel
theorem dX12_ends_0 : decode cX12_ends 0 = .ok (.aload_n 0, 1) := by decide +kernel
theorem dX12_ends_1 : decode cX12_ends 1 = .ok (.getfield 42, 3) := by decide +kernel
theorem dX12_ends_4 : decode cX12_ends 4 = .ok (.iconst 3, 1) := by decide +kernel
theorem dX12_ends_5 : decode cX12_ends 5 = .ok (.if_icmp .ne 44, 3) := by decide +kernel
theorem dX12_ends_8 : decode cX12_ends 8 = .ok (.iconst 0, 1) := by decide +kernel
theorem dX12_ends_9 : decode cX12_ends 9 = .ok (.istore_n 2, 1) := by decide +kernel
theorem dX12_ends_10 : decode cX12_ends 10 = .ok (.iload_n 2, 1) := by decide +kernel
theorem dX12_ends_11 : decode cX12_ends 11 = .ok (.sipush 974, 3) := by decide +kernel
theorem dX12_ends_14 : decode cX12_ends 14 = .ok (.if_icmp .ge 25, 3) := by decide +kernel
theorem dX12_ends_17 : decode cX12_ends 17 = .ok (.aload_n 0, 1) := by decide +kernel
theorem dX12_ends_18 : decode cX12_ends 18 = .ok (.getfield 13, 3) := by decide +kernel
theorem dX12_ends_21 : decode cX12_ends 21 = .ok (.iload_n 2, 1) := by decide +kernel
theorem dX12_ends_22 : decode cX12_ends 22 = .ok (.aload_n 0, 1) := by decide +kernel
theorem dX12_ends_23 : decode cX12_ends 23 = .ok (.getfield 13, 3) := by decide +kernel
theorem dX12_ends_26 : decode cX12_ends 26 = .ok (.iload_n 2, 1) := by decide +kernel
theorem dX12_ends_27 : decode cX12_ends 27 = .ok (.sipush 487, 3) := by decide +kernel
theorem dX12_ends_30 : decode cX12_ends 30 = .ok (.iadd, 1) := by decide +kernel
theorem dX12_ends_31 : decode cX12_ends 31 = .ok (.iaload, 1) := by decide +kernel
theorem dX12_ends_32 : decode cX12_ends 32 = .ok (.iastore, 1) := by decide +kernel
theorem dX12_ends_33 : decode cX12_ends 33 = .ok (.iinc 2 1, 3) := by decide +kernel
theorem dX12_ends_36 : decode cX12_ends 36 = .ok (.goto (-26), 3) := by decide +kernel
theorem dX12_ends_39 : decode cX12_ends 39 = .ok (.aload_n 0, 1) := by decide +kernel
theorem dX12_ends_40 : decode cX12_ends 40 = .ok (.dup, 1) := by decide +kernel
theorem dX12_ends_41 : decode cX12_ends 41 = .ok (.getfield 42, 3) := by decide +kernel
theorem dX12_ends_44 : decode cX12_ends 44 = .ok (.iconst 1, 1) := by decide +kernel
theorem dX12_ends_45 : decode cX12_ends 45 = .ok (.isub, 1) := by decide +kernel
theorem dX12_ends_46 : decode cX12_ends 46 = .ok (.putfield 42, 3) := by decide +kernel
theorem dX12_ends_49 : decode cX12_ends 49 = .ok (.iconst 0, 1) := by decide +kernel
theorem dX12_ends_50 : decode cX12_ends 50 = .ok (.istore_n 2, 1) := by decide +kernel
theorem dX12_ends_51 : decode cX12_ends 51 = .ok (.iload_n 2, 1) := by decide +kernel
theorem dX12_ends_52 : decode cX12_ends 52 = .ok (.sipush 487, 3) := by decide +kernel
theorem dX12_ends_55 : decode cX12_ends 55 = .ok (.if_icmp .ge 30, 3) := by decide +kernel
theorem dX12_ends_58 : decode cX12_ends 58 = .ok (.aload_n 0, 1) := by decide +kernel
theorem dX12_ends_59 : decode cX12_ends 59 = .ok (.getfield 13, 3) := by decide +kernel
theorem dX12_ends_62 : decode cX12_ends 62 = .ok (.sipush 487, 3) := by decide +kernel
theorem dX12_ends_65 : decode cX12_ends 65 = .ok (.aload_n 0, 1) := by decide +kernel
theorem dX12_ends_66 : decode cX12_ends 66 = .ok (.getfield 42, 3) := by decide +kernel
theorem dX12_ends_69 : decode cX12_ends 69 = .ok (.imul, 1) := by decide +kernel
theorem dX12_ends_70 : decode cX12_ends 70 = .ok (.iload_n 2, 1) := by decide +kernel
theorem dX12_ends_71 : decode cX12_ends 71 = .ok (.iadd, 1) := by decide +kernel
theorem dX12_ends_72 : decode cX12_ends 72 = .ok (.aload_n 0, 1) := by decide +kernel
theorem dX12_ends_73 : decode cX12_ends 73 = .ok (.getfield 16, 3) := by decide +kernel
theorem dX12_ends_76 : decode cX12_ends 76 = .ok (.iload_n 2, 1) := by decide +kernel
theorem dX12_ends_77 : decode cX12_ends 77 = .ok (.iaload, 1) := by decide +kernel
theorem dX12_ends_78 : decode cX12_ends 78 = .ok (.iastore, 1) := by decide +kernel
theorem dX12_ends_79 : decode cX12_ends 79 = .ok (.iinc 2 1, 3) := by decide +kernel
theorem dX12_ends_82 : decode cX12_ends 82 = .ok (.goto (-31), 3) := by decide +kernel
theorem dX12_ends_85 : decode cX12_ends 85 = .ok (.aload_n 0, 1) := by decide +kernel
theorem dX12_ends_86 : decode cX12_ends 86 = .ok (.dup, 1) := by decide +kernel
theorem dX12_ends_87 : decode cX12_ends 87 = .ok (.getfield 42, 3) := by decide +kernel
theorem dX12_ends_90 : decode cX12_ends 90 = .ok (.iconst 1, 1) := by decide +kernel
theorem dX12_ends_91 : decode cX12_ends 91 = .ok (.iadd, 1) := by decide +kernel
theorem dX12_ends_92 : decode cX12_ends 92 = .ok (.putfield 42, 3) := by decide +kernel
theorem dX12_ends_95 : decode cX12_ends 95 = .ok (.aload_n 0, 1) := by decide +kernel
theorem dX12_ends_96 : decode cX12_ends 96 = .ok (.iload_n 1, 1) := by decide +kernel
theorem dX12_ends_97 : decode cX12_ends 97 = .ok (.invokevirtual 45, 3) := by decide +kernel
theorem dX12_ends_100 : decode cX12_ends 100 = .ok (.ireturn, 1) := by decide +kernel
theorem dX12_idOf_0 : decode cX12_idOf 0 = .ok (.bipush 10, 2) := by decide +kernel
theorem dX12_idOf_2 : decode cX12_idOf 2 = .ok (.aload_n 0, 1) := by decide +kernel
theorem dX12_idOf_3 : decode cX12_idOf 3 = .ok (.getfield 7, 3) := by decide +kernel
theorem dX12_idOf_6 : decode cX12_idOf 6 = .ok (.bipush 11, 2) := by decide +kernel
theorem dX12_idOf_8 : decode cX12_idOf 8 = .ok (.iconst 5, 1) := by decide +kernel
theorem dX12_idOf_9 : decode cX12_idOf 9 = .ok (.iload_n 1, 1) := by decide +kernel
theorem dX12_idOf_10 : decode cX12_idOf 10 = .ok (.imul, 1) := by decide +kernel
theorem dX12_idOf_11 : decode cX12_idOf 11 = .ok (.iadd, 1) := by decide +kernel
theorem dX12_idOf_12 : decode cX12_idOf 12 = .ok (.iaload, 1) := by decide +kernel
theorem dX12_idOf_13 : decode cX12_idOf 13 = .ok (.imul, 1) := by decide +kernel
theorem dX12_idOf_14 : decode cX12_idOf 14 = .ok (.iload_n 1, 1) := by decide +kernel
theorem dX12_idOf_15 : decode cX12_idOf 15 = .ok (.iadd, 1) := by decide +kernel
theorem dX12_idOf_16 : decode cX12_idOf 16 = .ok (.ireturn, 1) := by decide +kernel
theorem dX12_of_0 : decode cX12_of 0 = .ok (.aload_n 0, 1) := by decide +kernel
theorem dX12_of_1 : decode cX12_of 1 = .ok (.getfield 7, 3) := by decide +kernel
theorem dX12_of_4 : decode cX12_of 4 = .ok (.sipush 199, 3) := by decide +kernel
theorem dX12_of_7 : decode cX12_of 7 = .ok (.bipush 18, 2) := by decide +kernel
theorem dX12_of_9 : decode cX12_of 9 = .ok (.iload_n 1, 1) := by decide +kernel
theorem dX12_of_10 : decode cX12_of 10 = .ok (.imul, 1) := by decide +kernel
theorem dX12_of_11 : decode cX12_of 11 = .ok (.iadd, 1) := by decide +kernel
theorem dX12_of_12 : decode cX12_of 12 = .ok (.iload_n 2, 1) := by decide +kernel
theorem dX12_of_13 : decode cX12_of 13 = .ok (.iadd, 1) := by decide +kernel
theorem dX12_of_14 : decode cX12_of 14 = .ok (.iaload, 1) := by decide +kernel
theorem dX12_of_15 : decode cX12_of 15 = .ok (.ireturn, 1) := by decide +kernel
theorem dX12_puts_0 : decode cX12_puts 0 = .ok (.aload_n 0, 1) := by decide +kernel
theorem dX12_puts_1 : decode cX12_puts 1 = .ok (.getfield 7, 3) := by decide +kernel
theorem dX12_puts_4 : decode cX12_puts 4 = .ok (.sipush 199, 3) := by decide +kernel
theorem dX12_puts_7 : decode cX12_puts 7 = .ok (.bipush 18, 2) := by decide +kernel
theorem dX12_puts_9 : decode cX12_puts 9 = .ok (.iload_n 1, 1) := by decide +kernel
theorem dX12_puts_10 : decode cX12_puts 10 = .ok (.imul, 1) := by decide +kernel
theorem dX12_puts_11 : decode cX12_puts 11 = .ok (.iadd, 1) := by decide +kernel
theorem dX12_puts_12 : decode cX12_puts 12 = .ok (.iload_n 2, 1) := by decide +kernel
theorem dX12_puts_13 : decode cX12_puts 13 = .ok (.iadd, 1) := by decide +kernel
theorem dX12_puts_14 : decode cX12_puts 14 = .ok (.iload_n 3, 1) := by decide +kernel
theorem dX12_puts_15 : decode cX12_puts 15 = .ok (.iastore, 1) := by decide +kernel
theorem dX12_puts_16 : decode cX12_puts 16 = .ok (.return_, 1) := by decide +kernel
theorem dX12_isBridge_0 : decode cX12_isBridge 0 = .ok (.iload_n 1, 1) := by decide +kernel
theorem dX12_isBridge_1 : decode cX12_isBridge 1 = .ok (.iconst 0, 1) := by decide +kernel
theorem dX12_isBridge_2 : decode cX12_isBridge 2 = .ok (.aload_n 0, 1) := by decide +kernel
theorem dX12_isBridge_3 : decode cX12_isBridge 3 = .ok (.getfield 7, 3) := by decide +kernel
theorem dX12_isBridge_6 : decode cX12_isBridge 6 = .ok (.iconst 0, 1) := by decide +kernel
theorem dX12_isBridge_7 : decode cX12_isBridge 7 = .ok (.iaload, 1) := by decide +kernel
theorem dX12_isBridge_8 : decode cX12_isBridge 8 = .ok (.iconst 1, 1) := by decide +kernel
theorem dX12_isBridge_9 : decode cX12_isBridge 9 = .ok (.isub, 1) := by decide +kernel
theorem dX12_isBridge_10 : decode cX12_isBridge 10 = .ok (.invokestatic 49, 3) := by decide +kernel
theorem dX12_isBridge_13 : decode cX12_isBridge 13 = .ok (.ireturn, 1) := by decide +kernel
theorem dX12_isLink_0 : decode cX12_isLink 0 = .ok (.iload_n 1, 1) := by decide +kernel
theorem dX12_isLink_1 : decode cX12_isLink 1 = .ok (.iconst 0, 1) := by decide +kernel
theorem dX12_isLink_2 : decode cX12_isLink 2 = .ok (.aload_n 0, 1) := by decide +kernel
theorem dX12_isLink_3 : decode cX12_isLink 3 = .ok (.getfield 7, 3) := by decide +kernel
theorem dX12_isLink_6 : decode cX12_isLink 6 = .ok (.iconst 5, 1) := by decide +kernel
theorem dX12_isLink_7 : decode cX12_isLink 7 = .ok (.iaload, 1) := by decide +kernel
theorem dX12_isLink_8 : decode cX12_isLink 8 = .ok (.iconst 1, 1) := by decide +kernel
theorem dX12_isLink_9 : decode cX12_isLink 9 = .ok (.isub, 1) := by decide +kernel
theorem dX12_isLink_10 : decode cX12_isLink 10 = .ok (.invokestatic 49, 3) := by decide +kernel
theorem dX12_isLink_13 : decode cX12_isLink 13 = .ok (.ireturn, 1) := by decide +kernel
theorem dX12_isHost_0 : decode cX12_isHost 0 = .ok (.iload_n 0, 1) := by decide +kernel
theorem dX12_isHost_1 : decode cX12_isHost 1 = .ok (.iconst 0, 1) := by decide +kernel
theorem dX12_isHost_2 : decode cX12_isHost 2 = .ok (.bipush 7, 2) := by decide +kernel
theorem dX12_isHost_4 : decode cX12_isHost 4 = .ok (.invokestatic 49, 3) := by decide +kernel
theorem dX12_isHost_7 : decode cX12_isHost 7 = .ok (.ireturn, 1) := by decide +kernel
theorem dX12_isTenant_0 : decode cX12_isTenant 0 = .ok (.iload_n 0, 1) := by decide +kernel
theorem dX12_isTenant_1 : decode cX12_isTenant 1 = .ok (.iconst 0, 1) := by decide +kernel
theorem dX12_isTenant_2 : decode cX12_isTenant 2 = .ok (.iconst 3, 1) := by decide +kernel
theorem dX12_isTenant_3 : decode cX12_isTenant 3 = .ok (.invokestatic 49, 3) := by decide +kernel
theorem dX12_isTenant_6 : decode cX12_isTenant 6 = .ok (.ireturn, 1) := by decide +kernel
theorem dX12_startsAnew_0 : decode cX12_startsAnew 0 = .ok (.bipush 11, 2) := by decide +kernel
theorem dX12_startsAnew_2 : decode cX12_startsAnew 2 = .ok (.iconst 5, 1) := by decide +kernel
theorem dX12_startsAnew_3 : decode cX12_startsAnew 3 = .ok (.iload_n 1, 1) := by decide +kernel
theorem dX12_startsAnew_4 : decode cX12_startsAnew 4 = .ok (.imul, 1) := by decide +kernel
theorem dX12_startsAnew_5 : decode cX12_startsAnew 5 = .ok (.iadd, 1) := by decide +kernel
theorem dX12_startsAnew_6 : decode cX12_startsAnew 6 = .ok (.istore_n 2, 1) := by decide +kernel
theorem dX12_startsAnew_7 : decode cX12_startsAnew 7 = .ok (.aload_n 0, 1) := by decide +kernel
theorem dX12_startsAnew_8 : decode cX12_startsAnew 8 = .ok (.getfield 7, 3) := by decide +kernel
theorem dX12_startsAnew_11 : decode cX12_startsAnew 11 = .ok (.iload_n 2, 1) := by decide +kernel
theorem dX12_startsAnew_12 : decode cX12_startsAnew 12 = .ok (.iconst 1, 1) := by decide +kernel
theorem dX12_startsAnew_13 : decode cX12_startsAnew 13 = .ok (.iadd, 1) := by decide +kernel
theorem dX12_startsAnew_14 : decode cX12_startsAnew 14 = .ok (.aload_n 0, 1) := by decide +kernel
theorem dX12_startsAnew_15 : decode cX12_startsAnew 15 = .ok (.iload_n 1, 1) := by decide +kernel
theorem dX12_startsAnew_16 : decode cX12_startsAnew 16 = .ok (.invokevirtual 53, 3) := by decide +kernel
theorem dX12_startsAnew_19 : decode cX12_startsAnew 19 = .ok (.iastore, 1) := by decide +kernel
theorem dX12_startsAnew_20 : decode cX12_startsAnew 20 = .ok (.aload_n 0, 1) := by decide +kernel
theorem dX12_startsAnew_21 : decode cX12_startsAnew 21 = .ok (.getfield 7, 3) := by decide +kernel
theorem dX12_startsAnew_24 : decode cX12_startsAnew 24 = .ok (.iload_n 2, 1) := by decide +kernel
theorem dX12_startsAnew_25 : decode cX12_startsAnew 25 = .ok (.iconst 2, 1) := by decide +kernel
theorem dX12_startsAnew_26 : decode cX12_startsAnew 26 = .ok (.iadd, 1) := by decide +kernel
theorem dX12_startsAnew_27 : decode cX12_startsAnew 27 = .ok (.iconst 0, 1) := by decide +kernel
theorem dX12_startsAnew_28 : decode cX12_startsAnew 28 = .ok (.iastore, 1) := by decide +kernel
theorem dX12_startsAnew_29 : decode cX12_startsAnew 29 = .ok (.aload_n 0, 1) := by decide +kernel
theorem dX12_startsAnew_30 : decode cX12_startsAnew 30 = .ok (.getfield 7, 3) := by decide +kernel
theorem dX12_startsAnew_33 : decode cX12_startsAnew 33 = .ok (.iload_n 2, 1) := by decide +kernel
theorem dX12_startsAnew_34 : decode cX12_startsAnew 34 = .ok (.iconst 3, 1) := by decide +kernel
theorem dX12_startsAnew_35 : decode cX12_startsAnew 35 = .ok (.iadd, 1) := by decide +kernel
theorem dX12_startsAnew_36 : decode cX12_startsAnew 36 = .ok (.iconst 0, 1) := by decide +kernel
theorem dX12_startsAnew_37 : decode cX12_startsAnew 37 = .ok (.iastore, 1) := by decide +kernel
theorem dX12_startsAnew_38 : decode cX12_startsAnew 38 = .ok (.aload_n 0, 1) := by decide +kernel
theorem dX12_startsAnew_39 : decode cX12_startsAnew 39 = .ok (.getfield 7, 3) := by decide +kernel
theorem dX12_startsAnew_42 : decode cX12_startsAnew 42 = .ok (.iload_n 2, 1) := by decide +kernel
theorem dX12_startsAnew_43 : decode cX12_startsAnew 43 = .ok (.iconst 4, 1) := by decide +kernel
theorem dX12_startsAnew_44 : decode cX12_startsAnew 44 = .ok (.iadd, 1) := by decide +kernel
theorem dX12_startsAnew_45 : decode cX12_startsAnew 45 = .ok (.iconst (-1), 1) := by decide +kernel
theorem dX12_startsAnew_46 : decode cX12_startsAnew 46 = .ok (.iastore, 1) := by decide +kernel
theorem dX12_startsAnew_47 : decode cX12_startsAnew 47 = .ok (.return_, 1) := by decide +kernel
theorem dX12_begins_0 : decode cX12_begins 0 = .ok (.iconst 0, 1) := by decide +kernel
theorem dX12_begins_1 : decode cX12_begins 1 = .ok (.istore_n 2, 1) := by decide +kernel
theorem dX12_begins_2 : decode cX12_begins 2 = .ok (.iload_n 2, 1) := by decide +kernel
theorem dX12_begins_3 : decode cX12_begins 3 = .ok (.sipush 487, 3) := by decide +kernel
theorem dX12_begins_6 : decode cX12_begins 6 = .ok (.if_icmp .ge 34, 3) := by decide +kernel
theorem dX12_begins_9 : decode cX12_begins 9 = .ok (.aload_n 0, 1) := by decide +kernel
theorem dX12_begins_10 : decode cX12_begins 10 = .ok (.getfield 7, 3) := by decide +kernel
theorem dX12_begins_13 : decode cX12_begins 13 = .ok (.iload_n 2, 1) := by decide +kernel
theorem dX12_begins_14 : decode cX12_begins 14 = .ok (.iload_n 2, 1) := by decide +kernel
theorem dX12_begins_15 : decode cX12_begins 15 = .ok (.iconst 2, 1) := by decide +kernel
theorem dX12_begins_16 : decode cX12_begins 16 = .ok (.iconst 4, 1) := by decide +kernel
theorem dX12_begins_17 : decode cX12_begins 17 = .ok (.invokestatic 49, 3) := by decide +kernel
theorem dX12_begins_20 : decode cX12_begins 20 = .ok (.ifCond .eq 12, 3) := by decide +kernel
theorem dX12_begins_23 : decode cX12_begins 23 = .ok (.aload_n 0, 1) := by decide +kernel
theorem dX12_begins_24 : decode cX12_begins 24 = .ok (.getfield 7, 3) := by decide +kernel
theorem dX12_begins_27 : decode cX12_begins 27 = .ok (.iload_n 2, 1) := by decide +kernel
theorem dX12_begins_28 : decode cX12_begins 28 = .ok (.iaload, 1) := by decide +kernel
theorem dX12_begins_29 : decode cX12_begins 29 = .ok (.goto 4, 3) := by decide +kernel
theorem dX12_begins_32 : decode cX12_begins 32 = .ok (.iconst 0, 1) := by decide +kernel
theorem dX12_begins_33 : decode cX12_begins 33 = .ok (.iastore, 1) := by decide +kernel
theorem dX12_begins_34 : decode cX12_begins 34 = .ok (.iinc 2 1, 3) := by decide +kernel
theorem dX12_begins_37 : decode cX12_begins 37 = .ok (.goto (-35), 3) := by decide +kernel
theorem dX12_begins_40 : decode cX12_begins 40 = .ok (.aload_n 0, 1) := by decide +kernel
theorem dX12_begins_41 : decode cX12_begins 41 = .ok (.getfield 7, 3) := by decide +kernel
theorem dX12_begins_44 : decode cX12_begins 44 = .ok (.iconst 0, 1) := by decide +kernel
theorem dX12_begins_45 : decode cX12_begins 45 = .ok (.iload_n 1, 1) := by decide +kernel
theorem dX12_begins_46 : decode cX12_begins 46 = .ok (.iastore, 1) := by decide +kernel
theorem dX12_begins_47 : decode cX12_begins 47 = .ok (.iconst 0, 1) := by decide +kernel
theorem dX12_begins_48 : decode cX12_begins 48 = .ok (.istore_n 2, 1) := by decide +kernel
theorem dX12_begins_49 : decode cX12_begins 49 = .ok (.iload_n 2, 1) := by decide +kernel
theorem dX12_begins_50 : decode cX12_begins 50 = .ok (.bipush 8, 2) := by decide +kernel
theorem dX12_begins_52 : decode cX12_begins 52 = .ok (.if_icmp .ge 31, 3) := by decide +kernel
theorem dX12_begins_55 : decode cX12_begins 55 = .ok (.aload_n 0, 1) := by decide +kernel
theorem dX12_begins_56 : decode cX12_begins 56 = .ok (.getfield 7, 3) := by decide +kernel
theorem dX12_begins_59 : decode cX12_begins 59 = .ok (.bipush 11, 2) := by decide +kernel
theorem dX12_begins_61 : decode cX12_begins 61 = .ok (.iconst 5, 1) := by decide +kernel
theorem dX12_begins_62 : decode cX12_begins 62 = .ok (.iload_n 2, 1) := by decide +kernel
theorem dX12_begins_63 : decode cX12_begins 63 = .ok (.imul, 1) := by decide +kernel
theorem dX12_begins_64 : decode cX12_begins 64 = .ok (.iadd, 1) := by decide +kernel
theorem dX12_begins_65 : decode cX12_begins 65 = .ok (.iconst 5, 1) := by decide +kernel
theorem dX12_begins_66 : decode cX12_begins 66 = .ok (.iastore, 1) := by decide +kernel
theorem dX12_begins_67 : decode cX12_begins 67 = .ok (.aload_n 0, 1) := by decide +kernel
theorem dX12_begins_68 : decode cX12_begins 68 = .ok (.iload_n 2, 1) := by decide +kernel
theorem dX12_begins_69 : decode cX12_begins 69 = .ok (.invokevirtual 56, 3) := by decide +kernel
theorem dX12_begins_72 : decode cX12_begins 72 = .ok (.aload_n 0, 1) := by decide +kernel
theorem dX12_begins_73 : decode cX12_begins 73 = .ok (.iload_n 2, 1) := by decide +kernel
theorem dX12_begins_74 : decode cX12_begins 74 = .ok (.invokevirtual 59, 3) := by decide +kernel
theorem dX12_begins_77 : decode cX12_begins 77 = .ok (.iinc 2 1, 3) := by decide +kernel
theorem dX12_begins_80 : decode cX12_begins 80 = .ok (.goto (-31), 3) := by decide +kernel
theorem dX12_begins_83 : decode cX12_begins 83 = .ok (.iconst 0, 1) := by decide +kernel
theorem dX12_begins_84 : decode cX12_begins 84 = .ok (.istore_n 2, 1) := by decide +kernel
theorem dX12_begins_85 : decode cX12_begins 85 = .ok (.iload_n 2, 1) := by decide +kernel
theorem dX12_begins_86 : decode cX12_begins 86 = .ok (.bipush 8, 2) := by decide +kernel
theorem dX12_begins_88 : decode cX12_begins 88 = .ok (.if_icmp .ge 22, 3) := by decide +kernel
theorem dX12_begins_91 : decode cX12_begins 91 = .ok (.aload_n 0, 1) := by decide +kernel
theorem dX12_begins_92 : decode cX12_begins 92 = .ok (.getfield 7, 3) := by decide +kernel
theorem dX12_begins_95 : decode cX12_begins 95 = .ok (.sipush 179, 3) := by decide +kernel
theorem dX12_begins_98 : decode cX12_begins 98 = .ok (.iload_n 2, 1) := by decide +kernel
theorem dX12_begins_99 : decode cX12_begins 99 = .ok (.iadd, 1) := by decide +kernel
theorem dX12_begins_100 : decode cX12_begins 100 = .ok (.iload_n 2, 1) := by decide +kernel
theorem dX12_begins_101 : decode cX12_begins 101 = .ok (.iload_n 1, 1) := by decide +kernel
theorem dX12_begins_102 : decode cX12_begins 102 = .ok (.irem, 1) := by decide +kernel
theorem dX12_begins_103 : decode cX12_begins 103 = .ok (.iastore, 1) := by decide +kernel
theorem dX12_begins_104 : decode cX12_begins 104 = .ok (.iinc 2 1, 3) := by decide +kernel
theorem dX12_begins_107 : decode cX12_begins 107 = .ok (.goto (-22), 3) := by decide +kernel
theorem dX12_begins_110 : decode cX12_begins 110 = .ok (.iconst 0, 1) := by decide +kernel
theorem dX12_begins_111 : decode cX12_begins 111 = .ok (.istore_n 2, 1) := by decide +kernel
theorem dX12_begins_112 : decode cX12_begins 112 = .ok (.iload_n 2, 1) := by decide +kernel
theorem dX12_begins_113 : decode cX12_begins 113 = .ok (.iconst 4, 1) := by decide +kernel
theorem dX12_begins_114 : decode cX12_begins 114 = .ok (.if_icmp .ge 23, 3) := by decide +kernel
theorem dX12_begins_117 : decode cX12_begins 117 = .ok (.aload_n 0, 1) := by decide +kernel
theorem dX12_begins_118 : decode cX12_begins 118 = .ok (.getfield 7, 3) := by decide +kernel
theorem dX12_begins_121 : decode cX12_begins 121 = .ok (.sipush 187, 3) := by decide +kernel
theorem dX12_begins_124 : decode cX12_begins 124 = .ok (.iconst 3, 1) := by decide +kernel
theorem dX12_begins_125 : decode cX12_begins 125 = .ok (.iload_n 2, 1) := by decide +kernel
theorem dX12_begins_126 : decode cX12_begins 126 = .ok (.imul, 1) := by decide +kernel
theorem dX12_begins_127 : decode cX12_begins 127 = .ok (.iadd, 1) := by decide +kernel
theorem dX12_begins_128 : decode cX12_begins 128 = .ok (.bipush 100, 2) := by decide +kernel
theorem dX12_begins_130 : decode cX12_begins 130 = .ok (.iastore, 1) := by decide +kernel
theorem dX12_begins_131 : decode cX12_begins 131 = .ok (.iinc 2 1, 3) := by decide +kernel
theorem dX12_begins_134 : decode cX12_begins 134 = .ok (.goto (-22), 3) := by decide +kernel
theorem dX12_begins_137 : decode cX12_begins 137 = .ok (.return_, 1) := by decide +kernel
theorem dX12_flushes_0 : decode cX12_flushes 0 = .ok (.iconst 0, 1) := by decide +kernel
theorem dX12_flushes_1 : decode cX12_flushes 1 = .ok (.istore_n 2, 1) := by decide +kernel
theorem dX12_flushes_2 : decode cX12_flushes 2 = .ok (.iload_n 2, 1) := by decide +kernel
theorem dX12_flushes_3 : decode cX12_flushes 3 = .ok (.bipush 8, 2) := by decide +kernel
theorem dX12_flushes_5 : decode cX12_flushes 5 = .ok (.if_icmp .ge 26, 3) := by decide +kernel
theorem dX12_flushes_8 : decode cX12_flushes 8 = .ok (.aload_n 0, 1) := by decide +kernel
theorem dX12_flushes_9 : decode cX12_flushes 9 = .ok (.getfield 7, 3) := by decide +kernel
theorem dX12_flushes_12 : decode cX12_flushes 12 = .ok (.bipush 51, 2) := by decide +kernel
theorem dX12_flushes_14 : decode cX12_flushes 14 = .ok (.bipush 16, 2) := by decide +kernel
theorem dX12_flushes_16 : decode cX12_flushes 16 = .ok (.iload_n 1, 1) := by decide +kernel
theorem dX12_flushes_17 : decode cX12_flushes 17 = .ok (.imul, 1) := by decide +kernel
theorem dX12_flushes_18 : decode cX12_flushes 18 = .ok (.iadd, 1) := by decide +kernel
theorem dX12_flushes_19 : decode cX12_flushes 19 = .ok (.iconst 2, 1) := by decide +kernel
theorem dX12_flushes_20 : decode cX12_flushes 20 = .ok (.iload_n 2, 1) := by decide +kernel
theorem dX12_flushes_21 : decode cX12_flushes 21 = .ok (.imul, 1) := by decide +kernel
theorem dX12_flushes_22 : decode cX12_flushes 22 = .ok (.iadd, 1) := by decide +kernel
theorem dX12_flushes_23 : decode cX12_flushes 23 = .ok (.iconst (-1), 1) := by decide +kernel
theorem dX12_flushes_24 : decode cX12_flushes 24 = .ok (.iastore, 1) := by decide +kernel
theorem dX12_flushes_25 : decode cX12_flushes 25 = .ok (.iinc 2 1, 3) := by decide +kernel
theorem dX12_flushes_28 : decode cX12_flushes 28 = .ok (.goto (-26), 3) := by decide +kernel
theorem dX12_flushes_31 : decode cX12_flushes 31 = .ok (.return_, 1) := by decide +kernel
theorem dX12_other_0 : decode cX12_other 0 = .ok (.aload_n 0, 1) := by decide +kernel
theorem dX12_other_1 : decode cX12_other 1 = .ok (.iload_n 1, 1) := by decide +kernel
theorem dX12_other_2 : decode cX12_other 2 = .ok (.iconst 0, 1) := by decide +kernel
theorem dX12_other_3 : decode cX12_other 3 = .ok (.invokevirtual 62, 3) := by decide +kernel
theorem dX12_other_6 : decode cX12_other 6 = .ok (.iload_n 2, 1) := by decide +kernel
theorem dX12_other_7 : decode cX12_other 7 = .ok (.if_icmp .ne 12, 3) := by decide +kernel
theorem dX12_other_10 : decode cX12_other 10 = .ok (.aload_n 0, 1) := by decide +kernel
theorem dX12_other_11 : decode cX12_other 11 = .ok (.iload_n 1, 1) := by decide +kernel
theorem dX12_other_12 : decode cX12_other 12 = .ok (.iconst 1, 1) := by decide +kernel
theorem dX12_other_13 : decode cX12_other 13 = .ok (.invokevirtual 62, 3) := by decide +kernel
theorem dX12_other_16 : decode cX12_other 16 = .ok (.goto 9, 3) := by decide +kernel
theorem dX12_other_19 : decode cX12_other 19 = .ok (.aload_n 0, 1) := by decide +kernel
theorem dX12_other_20 : decode cX12_other 20 = .ok (.iload_n 1, 1) := by decide +kernel
theorem dX12_other_21 : decode cX12_other 21 = .ok (.iconst 0, 1) := by decide +kernel
theorem dX12_other_22 : decode cX12_other 22 = .ok (.invokevirtual 62, 3) := by decide +kernel
theorem dX12_other_25 : decode cX12_other 25 = .ok (.ireturn, 1) := by decide +kernel
theorem dX12_isAt_0 : decode cX12_isAt 0 = .ok (.aload_n 0, 1) := by decide +kernel
theorem dX12_isAt_1 : decode cX12_isAt 1 = .ok (.iload_n 1, 1) := by decide +kernel
theorem dX12_isAt_2 : decode cX12_isAt 2 = .ok (.iconst 0, 1) := by decide +kernel
theorem dX12_isAt_3 : decode cX12_isAt 3 = .ok (.invokevirtual 62, 3) := by decide +kernel
theorem dX12_isAt_6 : decode cX12_isAt 6 = .ok (.iload_n 2, 1) := by decide +kernel
theorem dX12_isAt_7 : decode cX12_isAt 7 = .ok (.if_icmp .eq 13, 3) := by decide +kernel
theorem dX12_isAt_10 : decode cX12_isAt 10 = .ok (.aload_n 0, 1) := by decide +kernel
theorem dX12_isAt_11 : decode cX12_isAt 11 = .ok (.iload_n 1, 1) := by decide +kernel
theorem dX12_isAt_12 : decode cX12_isAt 12 = .ok (.iconst 1, 1) := by decide +kernel
theorem dX12_isAt_13 : decode cX12_isAt 13 = .ok (.invokevirtual 62, 3) := by decide +kernel
theorem dX12_isAt_16 : decode cX12_isAt 16 = .ok (.iload_n 2, 1) := by decide +kernel
theorem dX12_isAt_17 : decode cX12_isAt 17 = .ok (.if_icmp .ne 7, 3) := by decide +kernel
theorem dX12_isAt_20 : decode cX12_isAt 20 = .ok (.iconst 1, 1) := by decide +kernel
theorem dX12_isAt_21 : decode cX12_isAt 21 = .ok (.goto 4, 3) := by decide +kernel
theorem dX12_isAt_24 : decode cX12_isAt 24 = .ok (.iconst 0, 1) := by decide +kernel
theorem dX12_isAt_25 : decode cX12_isAt 25 = .ok (.ireturn, 1) := by decide +kernel
theorem dX12_carries_0 : decode cX12_carries 0 = .ok (.aload_n 0, 1) := by decide +kernel
theorem dX12_carries_1 : decode cX12_carries 1 = .ok (.iload_n 1, 1) := by decide +kernel
theorem dX12_carries_2 : decode cX12_carries 2 = .ok (.iconst 4, 1) := by decide +kernel
theorem dX12_carries_3 : decode cX12_carries 3 = .ok (.invokevirtual 62, 3) := by decide +kernel
theorem dX12_carries_6 : decode cX12_carries 6 = .ok (.iconst 1, 1) := by decide +kernel
theorem dX12_carries_7 : decode cX12_carries 7 = .ok (.if_icmp .ne 29, 3) := by decide +kernel
theorem dX12_carries_10 : decode cX12_carries 10 = .ok (.aload_n 0, 1) := by decide +kernel
theorem dX12_carries_11 : decode cX12_carries 11 = .ok (.iload_n 1, 1) := by decide +kernel
theorem dX12_carries_12 : decode cX12_carries 12 = .ok (.bipush 9, 2) := by decide +kernel
theorem dX12_carries_14 : decode cX12_carries 14 = .ok (.invokevirtual 62, 3) := by decide +kernel
theorem dX12_carries_17 : decode cX12_carries 17 = .ok (.iconst 3, 1) := by decide +kernel
theorem dX12_carries_18 : decode cX12_carries 18 = .ok (.if_icmp .ne 18, 3) := by decide +kernel
theorem dX12_carries_21 : decode cX12_carries 21 = .ok (.aload_n 0, 1) := by decide +kernel
theorem dX12_carries_22 : decode cX12_carries 22 = .ok (.iload_n 1, 1) := by decide +kernel
theorem dX12_carries_23 : decode cX12_carries 23 = .ok (.bipush 12, 2) := by decide +kernel
theorem dX12_carries_25 : decode cX12_carries 25 = .ok (.invokevirtual 62, 3) := by decide +kernel
theorem dX12_carries_28 : decode cX12_carries 28 = .ok (.iconst 3, 1) := by decide +kernel
theorem dX12_carries_29 : decode cX12_carries 29 = .ok (.if_icmp .ne 7, 3) := by decide +kernel
theorem dX12_carries_32 : decode cX12_carries 32 = .ok (.iconst 1, 1) := by decide +kernel
theorem dX12_carries_33 : decode cX12_carries 33 = .ok (.goto 4, 3) := by decide +kernel
theorem dX12_carries_36 : decode cX12_carries 36 = .ok (.iconst 0, 1) := by decide +kernel
theorem dX12_carries_37 : decode cX12_carries 37 = .ok (.ireturn, 1) := by decide +kernel
theorem dX12_reached_0 : decode cX12_reached 0 = .ok (.iconst 1, 1) := by decide +kernel
theorem dX12_reached_1 : decode cX12_reached 1 = .ok (.iload_n 1, 1) := by decide +kernel
theorem dX12_reached_2 : decode cX12_reached 2 = .ok (.ishl, 1) := by decide +kernel
theorem dX12_reached_3 : decode cX12_reached 3 = .ok (.istore_n 2, 1) := by decide +kernel
theorem dX12_reached_4 : decode cX12_reached 4 = .ok (.iconst 0, 1) := by decide +kernel
theorem dX12_reached_5 : decode cX12_reached 5 = .ok (.istore_n 3, 1) := by decide +kernel
theorem dX12_reached_6 : decode cX12_reached 6 = .ok (.iload_n 3, 1) := by decide +kernel
theorem dX12_reached_7 : decode cX12_reached 7 = .ok (.bipush 8, 2) := by decide +kernel
theorem dX12_reached_9 : decode cX12_reached 9 = .ok (.if_icmp .ge 85, 3) := by decide +kernel
theorem dX12_reached_12 : decode cX12_reached 12 = .ok (.iconst 0, 1) := by decide +kernel
theorem dX12_reached_13 : decode cX12_reached 13 = .ok (.istore 4, 2) := by decide +kernel
theorem dX12_reached_15 : decode cX12_reached 15 = .ok (.iload 4, 2) := by decide +kernel
theorem dX12_reached_17 : decode cX12_reached 17 = .ok (.aload_n 0, 1) := by decide +kernel
theorem dX12_reached_18 : decode cX12_reached 18 = .ok (.getfield 7, 3) := by decide +kernel
theorem dX12_reached_21 : decode cX12_reached 21 = .ok (.iconst 5, 1) := by decide +kernel
theorem dX12_reached_22 : decode cX12_reached 22 = .ok (.iaload, 1) := by decide +kernel
theorem dX12_reached_23 : decode cX12_reached 23 = .ok (.if_icmp .ge 65, 3) := by decide +kernel
theorem dX12_reached_26 : decode cX12_reached 26 = .ok (.aload_n 0, 1) := by decide +kernel
theorem dX12_reached_27 : decode cX12_reached 27 = .ok (.iload 4, 2) := by decide +kernel
theorem dX12_reached_29 : decode cX12_reached 29 = .ok (.invokevirtual 66, 3) := by decide +kernel
theorem dX12_reached_32 : decode cX12_reached 32 = .ok (.ifCond .eq 50, 3) := by decide +kernel
theorem dX12_reached_35 : decode cX12_reached 35 = .ok (.iload_n 2, 1) := by decide +kernel
theorem dX12_reached_36 : decode cX12_reached 36 = .ok (.aload_n 0, 1) := by decide +kernel
theorem dX12_reached_37 : decode cX12_reached 37 = .ok (.iload 4, 2) := by decide +kernel
theorem dX12_reached_39 : decode cX12_reached 39 = .ok (.iconst 0, 1) := by decide +kernel
theorem dX12_reached_40 : decode cX12_reached 40 = .ok (.invokevirtual 62, 3) := by decide +kernel
theorem dX12_reached_43 : decode cX12_reached 43 = .ok (.ishr, 1) := by decide +kernel
theorem dX12_reached_44 : decode cX12_reached 44 = .ok (.iload_n 2, 1) := by decide +kernel
theorem dX12_reached_45 : decode cX12_reached 45 = .ok (.aload_n 0, 1) := by decide +kernel
theorem dX12_reached_46 : decode cX12_reached 46 = .ok (.iload 4, 2) := by decide +kernel
theorem dX12_reached_48 : decode cX12_reached 48 = .ok (.iconst 1, 1) := by decide +kernel
theorem dX12_reached_49 : decode cX12_reached 49 = .ok (.invokevirtual 62, 3) := by decide +kernel
theorem dX12_reached_52 : decode cX12_reached 52 = .ok (.ishr, 1) := by decide +kernel
theorem dX12_reached_53 : decode cX12_reached 53 = .ok (.ior, 1) := by decide +kernel
theorem dX12_reached_54 : decode cX12_reached 54 = .ok (.iconst 1, 1) := by decide +kernel
theorem dX12_reached_55 : decode cX12_reached 55 = .ok (.iand, 1) := by decide +kernel
theorem dX12_reached_56 : decode cX12_reached 56 = .ok (.iconst 1, 1) := by decide +kernel
theorem dX12_reached_57 : decode cX12_reached 57 = .ok (.if_icmp .ne 25, 3) := by decide +kernel
theorem dX12_reached_60 : decode cX12_reached 60 = .ok (.iload_n 2, 1) := by decide +kernel
theorem dX12_reached_61 : decode cX12_reached 61 = .ok (.iconst 1, 1) := by decide +kernel
theorem dX12_reached_62 : decode cX12_reached 62 = .ok (.aload_n 0, 1) := by decide +kernel
theorem dX12_reached_63 : decode cX12_reached 63 = .ok (.iload 4, 2) := by decide +kernel
theorem dX12_reached_65 : decode cX12_reached 65 = .ok (.iconst 0, 1) := by decide +kernel
theorem dX12_reached_66 : decode cX12_reached 66 = .ok (.invokevirtual 62, 3) := by decide +kernel
theorem dX12_reached_69 : decode cX12_reached 69 = .ok (.ishl, 1) := by decide +kernel
theorem dX12_reached_70 : decode cX12_reached 70 = .ok (.iconst 1, 1) := by decide +kernel
theorem dX12_reached_71 : decode cX12_reached 71 = .ok (.aload_n 0, 1) := by decide +kernel
theorem dX12_reached_72 : decode cX12_reached 72 = .ok (.iload 4, 2) := by decide +kernel
theorem dX12_reached_74 : decode cX12_reached 74 = .ok (.iconst 1, 1) := by decide +kernel
theorem dX12_reached_75 : decode cX12_reached 75 = .ok (.invokevirtual 62, 3) := by decide +kernel
theorem dX12_reached_78 : decode cX12_reached 78 = .ok (.ishl, 1) := by decide +kernel
theorem dX12_reached_79 : decode cX12_reached 79 = .ok (.ior, 1) := by decide +kernel
theorem dX12_reached_80 : decode cX12_reached 80 = .ok (.ior, 1) := by decide +kernel
theorem dX12_reached_81 : decode cX12_reached 81 = .ok (.istore_n 2, 1) := by decide +kernel
theorem dX12_reached_82 : decode cX12_reached 82 = .ok (.iinc 4 1, 3) := by decide +kernel
theorem dX12_reached_85 : decode cX12_reached 85 = .ok (.goto (-70), 3) := by decide +kernel
theorem dX12_reached_88 : decode cX12_reached 88 = .ok (.iinc 3 1, 3) := by decide +kernel
theorem dX12_reached_91 : decode cX12_reached 91 = .ok (.goto (-85), 3) := by decide +kernel
theorem dX12_reached_94 : decode cX12_reached 94 = .ok (.iload_n 2, 1) := by decide +kernel
theorem dX12_reached_95 : decode cX12_reached 95 = .ok (.ireturn, 1) := by decide +kernel
theorem dX12_setBridges_0 : decode cX12_setBridges 0 = .ok (.iload_n 1, 1) := by decide +kernel
theorem dX12_setBridges_1 : decode cX12_setBridges 1 = .ok (.iconst 2, 1) := by decide +kernel
theorem dX12_setBridges_2 : decode cX12_setBridges 2 = .ok (.bipush 8, 2) := by decide +kernel
theorem dX12_setBridges_4 : decode cX12_setBridges 4 = .ok (.invokestatic 49, 3) := by decide +kernel
theorem dX12_setBridges_7 : decode cX12_setBridges 7 = .ok (.ifCond .ne 9, 3) := by decide +kernel
theorem dX12_setBridges_10 : decode cX12_setBridges 10 = .ok (.aload_n 0, 1) := by decide +kernel
theorem dX12_setBridges_11 : decode cX12_setBridges 11 = .ok (.iconst 1, 1) := by decide +kernel
theorem dX12_setBridges_12 : decode cX12_setBridges 12 = .ok (.invokevirtual 70, 3) := by decide +kernel
theorem dX12_setBridges_15 : decode cX12_setBridges 15 = .ok (.ireturn, 1) := by decide +kernel
theorem dX12_setBridges_16 : decode cX12_setBridges 16 = .ok (.aload_n 0, 1) := by decide +kernel
theorem dX12_setBridges_17 : decode cX12_setBridges 17 = .ok (.invokevirtual 73, 3) := by decide +kernel
theorem dX12_setBridges_20 : decode cX12_setBridges 20 = .ok (.aload_n 0, 1) := by decide +kernel
theorem dX12_setBridges_21 : decode cX12_setBridges 21 = .ok (.getfield 7, 3) := by decide +kernel
theorem dX12_setBridges_24 : decode cX12_setBridges 24 = .ok (.iconst 0, 1) := by decide +kernel
theorem dX12_setBridges_25 : decode cX12_setBridges 25 = .ok (.iaload, 1) := by decide +kernel
theorem dX12_setBridges_26 : decode cX12_setBridges 26 = .ok (.istore_n 2, 1) := by decide +kernel
theorem dX12_setBridges_27 : decode cX12_setBridges 27 = .ok (.aload_n 0, 1) := by decide +kernel
theorem dX12_setBridges_28 : decode cX12_setBridges 28 = .ok (.iload_n 1, 1) := by decide +kernel
theorem dX12_setBridges_29 : decode cX12_setBridges 29 = .ok (.invokevirtual 34, 3) := by decide +kernel
theorem dX12_setBridges_32 : decode cX12_setBridges 32 = .ok (.aload_n 0, 1) := by decide +kernel
theorem dX12_setBridges_33 : decode cX12_setBridges 33 = .ok (.iload_n 2, 1) := by decide +kernel
theorem dX12_setBridges_34 : decode cX12_setBridges 34 = .ok (.invokevirtual 76, 3) := by decide +kernel
theorem dX12_setBridges_37 : decode cX12_setBridges 37 = .ok (.ireturn, 1) := by decide +kernel
theorem dX12_setTimes_0 : decode cX12_setTimes 0 = .ok (.iload_n 1, 1) := by decide +kernel
theorem dX12_setTimes_1 : decode cX12_setTimes 1 = .ok (.iconst 1, 1) := by decide +kernel
theorem dX12_setTimes_2 : decode cX12_setTimes 2 = .ok (.bipush 20, 2) := by decide +kernel
theorem dX12_setTimes_4 : decode cX12_setTimes 4 = .ok (.invokestatic 49, 3) := by decide +kernel
theorem dX12_setTimes_7 : decode cX12_setTimes 7 = .ok (.ifCond .eq 23, 3) := by decide +kernel
theorem dX12_setTimes_10 : decode cX12_setTimes 10 = .ok (.iload_n 2, 1) := by decide +kernel
theorem dX12_setTimes_11 : decode cX12_setTimes 11 = .ok (.iconst 5, 1) := by decide +kernel
theorem dX12_setTimes_12 : decode cX12_setTimes 12 = .ok (.bipush 100, 2) := by decide +kernel
theorem dX12_setTimes_14 : decode cX12_setTimes 14 = .ok (.invokestatic 49, 3) := by decide +kernel
theorem dX12_setTimes_17 : decode cX12_setTimes 17 = .ok (.ifCond .eq 13, 3) := by decide +kernel
theorem dX12_setTimes_20 : decode cX12_setTimes 20 = .ok (.iload_n 3, 1) := by decide +kernel
theorem dX12_setTimes_21 : decode cX12_setTimes 21 = .ok (.iconst 0, 1) := by decide +kernel
theorem dX12_setTimes_22 : decode cX12_setTimes 22 = .ok (.bipush 100, 2) := by decide +kernel
theorem dX12_setTimes_24 : decode cX12_setTimes 24 = .ok (.invokestatic 49, 3) := by decide +kernel
theorem dX12_setTimes_27 : decode cX12_setTimes 27 = .ok (.ifCond .ne 9, 3) := by decide +kernel
theorem dX12_setTimes_30 : decode cX12_setTimes 30 = .ok (.aload_n 0, 1) := by decide +kernel
theorem dX12_setTimes_31 : decode cX12_setTimes 31 = .ok (.iconst 1, 1) := by decide +kernel
theorem dX12_setTimes_32 : decode cX12_setTimes 32 = .ok (.invokevirtual 70, 3) := by decide +kernel
theorem dX12_setTimes_35 : decode cX12_setTimes 35 = .ok (.ireturn, 1) := by decide +kernel
theorem dX12_setTimes_36 : decode cX12_setTimes 36 = .ok (.aload_n 0, 1) := by decide +kernel
theorem dX12_setTimes_37 : decode cX12_setTimes 37 = .ok (.invokevirtual 73, 3) := by decide +kernel
theorem dX12_setTimes_40 : decode cX12_setTimes 40 = .ok (.aload_n 0, 1) := by decide +kernel
theorem dX12_setTimes_41 : decode cX12_setTimes 41 = .ok (.getfield 7, 3) := by decide +kernel
theorem dX12_setTimes_44 : decode cX12_setTimes 44 = .ok (.iconst 3, 1) := by decide +kernel
theorem dX12_setTimes_45 : decode cX12_setTimes 45 = .ok (.iaload, 1) := by decide +kernel
theorem dX12_setTimes_46 : decode cX12_setTimes 46 = .ok (.istore 4, 2) := by decide +kernel
theorem dX12_setTimes_48 : decode cX12_setTimes 48 = .ok (.aload_n 0, 1) := by decide +kernel
theorem dX12_setTimes_49 : decode cX12_setTimes 49 = .ok (.getfield 7, 3) := by decide +kernel
theorem dX12_setTimes_52 : decode cX12_setTimes 52 = .ok (.iconst 2, 1) := by decide +kernel
theorem dX12_setTimes_53 : decode cX12_setTimes 53 = .ok (.iload_n 1, 1) := by decide +kernel
theorem dX12_setTimes_54 : decode cX12_setTimes 54 = .ok (.iastore, 1) := by decide +kernel
theorem dX12_setTimes_55 : decode cX12_setTimes 55 = .ok (.aload_n 0, 1) := by decide +kernel
theorem dX12_setTimes_56 : decode cX12_setTimes 56 = .ok (.getfield 7, 3) := by decide +kernel
theorem dX12_setTimes_59 : decode cX12_setTimes 59 = .ok (.iconst 3, 1) := by decide +kernel
theorem dX12_setTimes_60 : decode cX12_setTimes 60 = .ok (.iload_n 2, 1) := by decide +kernel
theorem dX12_setTimes_61 : decode cX12_setTimes 61 = .ok (.iastore, 1) := by decide +kernel
theorem dX12_setTimes_62 : decode cX12_setTimes 62 = .ok (.aload_n 0, 1) := by decide +kernel
theorem dX12_setTimes_63 : decode cX12_setTimes 63 = .ok (.getfield 7, 3) := by decide +kernel
theorem dX12_setTimes_66 : decode cX12_setTimes 66 = .ok (.iconst 4, 1) := by decide +kernel
theorem dX12_setTimes_67 : decode cX12_setTimes 67 = .ok (.iload_n 3, 1) := by decide +kernel
theorem dX12_setTimes_68 : decode cX12_setTimes 68 = .ok (.iastore, 1) := by decide +kernel
theorem dX12_setTimes_69 : decode cX12_setTimes 69 = .ok (.aload_n 0, 1) := by decide +kernel
theorem dX12_setTimes_70 : decode cX12_setTimes 70 = .ok (.iload 4, 2) := by decide +kernel
theorem dX12_setTimes_72 : decode cX12_setTimes 72 = .ok (.invokevirtual 76, 3) := by decide +kernel
theorem dX12_setTimes_75 : decode cX12_setTimes 75 = .ok (.ireturn, 1) := by decide +kernel
theorem dX12_prioritizes_0 : decode cX12_prioritizes 0 = .ok (.aload_n 0, 1) := by decide +kernel
theorem dX12_prioritizes_1 : decode cX12_prioritizes 1 = .ok (.iload_n 1, 1) := by decide +kernel
theorem dX12_prioritizes_2 : decode cX12_prioritizes 2 = .ok (.invokevirtual 79, 3) := by decide +kernel
theorem dX12_prioritizes_5 : decode cX12_prioritizes 5 = .ok (.ifCond .ne 5, 3) := by decide +kernel
theorem dX12_prioritizes_8 : decode cX12_prioritizes 8 = .ok (.iconst 1, 1) := by decide +kernel
theorem dX12_prioritizes_9 : decode cX12_prioritizes 9 = .ok (.ireturn, 1) := by decide +kernel
theorem dX12_prioritizes_10 : decode cX12_prioritizes 10 = .ok (.iload_n 2, 1) := by decide +kernel
theorem dX12_prioritizes_11 : decode cX12_prioritizes 11 = .ok (.iconst 0, 1) := by decide +kernel
theorem dX12_prioritizes_12 : decode cX12_prioritizes 12 = .ok (.bipush 9, 2) := by decide +kernel
theorem dX12_prioritizes_14 : decode cX12_prioritizes 14 = .ok (.invokestatic 49, 3) := by decide +kernel
theorem dX12_prioritizes_17 : decode cX12_prioritizes 17 = .ok (.ifCond .ne 5, 3) := by decide +kernel
theorem dX12_prioritizes_20 : decode cX12_prioritizes 20 = .ok (.iconst 2, 1) := by decide +kernel
theorem dX12_prioritizes_21 : decode cX12_prioritizes 21 = .ok (.ireturn, 1) := by decide +kernel
theorem dX12_prioritizes_22 : decode cX12_prioritizes 22 = .ok (.aload_n 0, 1) := by decide +kernel
theorem dX12_prioritizes_23 : decode cX12_prioritizes 23 = .ok (.aload_n 0, 1) := by decide +kernel
theorem dX12_prioritizes_24 : decode cX12_prioritizes 24 = .ok (.getfield 7, 3) := by decide +kernel
theorem dX12_prioritizes_27 : decode cX12_prioritizes 27 = .ok (.bipush 11, 2) := by decide +kernel
theorem dX12_prioritizes_29 : decode cX12_prioritizes 29 = .ok (.iconst 5, 1) := by decide +kernel
theorem dX12_prioritizes_30 : decode cX12_prioritizes 30 = .ok (.iload_n 1, 1) := by decide +kernel
theorem dX12_prioritizes_31 : decode cX12_prioritizes 31 = .ok (.imul, 1) := by decide +kernel
theorem dX12_prioritizes_32 : decode cX12_prioritizes 32 = .ok (.iadd, 1) := by decide +kernel
theorem dX12_prioritizes_33 : decode cX12_prioritizes 33 = .ok (.iaload, 1) := by decide +kernel
theorem dX12_prioritizes_34 : decode cX12_prioritizes 34 = .ok (.putfield 82, 3) := by decide +kernel
theorem dX12_prioritizes_37 : decode cX12_prioritizes 37 = .ok (.aload_n 0, 1) := by decide +kernel
theorem dX12_prioritizes_38 : decode cX12_prioritizes 38 = .ok (.getfield 7, 3) := by decide +kernel
theorem dX12_prioritizes_41 : decode cX12_prioritizes 41 = .ok (.bipush 11, 2) := by decide +kernel
theorem dX12_prioritizes_43 : decode cX12_prioritizes 43 = .ok (.iconst 5, 1) := by decide +kernel
theorem dX12_prioritizes_44 : decode cX12_prioritizes 44 = .ok (.iload_n 1, 1) := by decide +kernel
theorem dX12_prioritizes_45 : decode cX12_prioritizes 45 = .ok (.imul, 1) := by decide +kernel
theorem dX12_prioritizes_46 : decode cX12_prioritizes 46 = .ok (.iadd, 1) := by decide +kernel
theorem dX12_prioritizes_47 : decode cX12_prioritizes 47 = .ok (.iload_n 2, 1) := by decide +kernel
theorem dX12_prioritizes_48 : decode cX12_prioritizes 48 = .ok (.iastore, 1) := by decide +kernel
theorem dX12_prioritizes_49 : decode cX12_prioritizes 49 = .ok (.aload_n 0, 1) := by decide +kernel
theorem dX12_prioritizes_50 : decode cX12_prioritizes 50 = .ok (.iload_n 1, 1) := by decide +kernel
theorem dX12_prioritizes_51 : decode cX12_prioritizes 51 = .ok (.invokevirtual 56, 3) := by decide +kernel
theorem dX12_prioritizes_54 : decode cX12_prioritizes 54 = .ok (.iconst 0, 1) := by decide +kernel
theorem dX12_prioritizes_55 : decode cX12_prioritizes 55 = .ok (.ireturn, 1) := by decide +kernel
theorem dX12_joins_0 : decode cX12_joins 0 = .ok (.aload_n 0, 1) := by decide +kernel
theorem dX12_joins_1 : decode cX12_joins 1 = .ok (.iload_n 1, 1) := by decide +kernel
theorem dX12_joins_2 : decode cX12_joins 2 = .ok (.invokevirtual 79, 3) := by decide +kernel
theorem dX12_joins_5 : decode cX12_joins 5 = .ok (.ifCond .eq 11, 3) := by decide +kernel
theorem dX12_joins_8 : decode cX12_joins 8 = .ok (.aload_n 0, 1) := by decide +kernel
theorem dX12_joins_9 : decode cX12_joins 9 = .ok (.iload_n 2, 1) := by decide +kernel
theorem dX12_joins_10 : decode cX12_joins 10 = .ok (.invokevirtual 79, 3) := by decide +kernel
theorem dX12_joins_13 : decode cX12_joins 13 = .ok (.ifCond .ne 5, 3) := by decide +kernel
theorem dX12_joins_16 : decode cX12_joins 16 = .ok (.iconst 1, 1) := by decide +kernel
theorem dX12_joins_17 : decode cX12_joins 17 = .ok (.ireturn, 1) := by decide +kernel
theorem dX12_joins_18 : decode cX12_joins 18 = .ok (.iload_n 1, 1) := by decide +kernel
theorem dX12_joins_19 : decode cX12_joins 19 = .ok (.iload_n 2, 1) := by decide +kernel
theorem dX12_joins_20 : decode cX12_joins 20 = .ok (.if_icmp .eq 13, 3) := by decide +kernel
theorem dX12_joins_23 : decode cX12_joins 23 = .ok (.iload_n 3, 1) := by decide +kernel
theorem dX12_joins_24 : decode cX12_joins 24 = .ok (.iconst 1, 1) := by decide +kernel
theorem dX12_joins_25 : decode cX12_joins 25 = .ok (.bipush 100, 2) := by decide +kernel
theorem dX12_joins_27 : decode cX12_joins 27 = .ok (.invokestatic 49, 3) := by decide +kernel
theorem dX12_joins_30 : decode cX12_joins 30 = .ok (.ifCond .ne 5, 3) := by decide +kernel
theorem dX12_joins_33 : decode cX12_joins 33 = .ok (.iconst 2, 1) := by decide +kernel
theorem dX12_joins_34 : decode cX12_joins 34 = .ok (.ireturn, 1) := by decide +kernel
theorem dX12_joins_35 : decode cX12_joins 35 = .ok (.aload_n 0, 1) := by decide +kernel
theorem dX12_joins_36 : decode cX12_joins 36 = .ok (.getfield 7, 3) := by decide +kernel
theorem dX12_joins_39 : decode cX12_joins 39 = .ok (.iconst 5, 1) := by decide +kernel
theorem dX12_joins_40 : decode cX12_joins 40 = .ok (.iaload, 1) := by decide +kernel
theorem dX12_joins_41 : decode cX12_joins 41 = .ok (.bipush 16, 2) := by decide +kernel
theorem dX12_joins_43 : decode cX12_joins 43 = .ok (.if_icmp .ne 5, 3) := by decide +kernel
theorem dX12_joins_46 : decode cX12_joins 46 = .ok (.iconst 3, 1) := by decide +kernel
theorem dX12_joins_47 : decode cX12_joins 47 = .ok (.ireturn, 1) := by decide +kernel
theorem dX12_joins_48 : decode cX12_joins 48 = .ok (.aload_n 0, 1) := by decide +kernel
theorem dX12_joins_49 : decode cX12_joins 49 = .ok (.aload_n 0, 1) := by decide +kernel
theorem dX12_joins_50 : decode cX12_joins 50 = .ok (.getfield 7, 3) := by decide +kernel
theorem dX12_joins_53 : decode cX12_joins 53 = .ok (.iconst 5, 1) := by decide +kernel
theorem dX12_joins_54 : decode cX12_joins 54 = .ok (.iaload, 1) := by decide +kernel
theorem dX12_joins_55 : decode cX12_joins 55 = .ok (.putfield 82, 3) := by decide +kernel
theorem dX12_joins_58 : decode cX12_joins 58 = .ok (.aload_n 0, 1) := by decide +kernel
theorem dX12_joins_59 : decode cX12_joins 59 = .ok (.getfield 7, 3) := by decide +kernel
theorem dX12_joins_62 : decode cX12_joins 62 = .ok (.iconst 5, 1) := by decide +kernel
theorem dX12_joins_63 : decode cX12_joins 63 = .ok (.dup2, 1) := by decide +kernel
theorem dX12_joins_64 : decode cX12_joins 64 = .ok (.iaload, 1) := by decide +kernel
theorem dX12_joins_65 : decode cX12_joins 65 = .ok (.iconst 1, 1) := by decide +kernel
theorem dX12_joins_66 : decode cX12_joins 66 = .ok (.iadd, 1) := by decide +kernel
theorem dX12_joins_67 : decode cX12_joins 67 = .ok (.iastore, 1) := by decide +kernel
theorem dX12_joins_68 : decode cX12_joins 68 = .ok (.iconst 0, 1) := by decide +kernel
theorem dX12_joins_69 : decode cX12_joins 69 = .ok (.istore 4, 2) := by decide +kernel
theorem dX12_joins_71 : decode cX12_joins 71 = .ok (.iload 4, 2) := by decide +kernel
theorem dX12_joins_73 : decode cX12_joins 73 = .ok (.bipush 18, 2) := by decide +kernel
theorem dX12_joins_75 : decode cX12_joins 75 = .ok (.if_icmp .ge 20, 3) := by decide +kernel
theorem dX12_joins_78 : decode cX12_joins 78 = .ok (.aload_n 0, 1) := by decide +kernel
theorem dX12_joins_79 : decode cX12_joins 79 = .ok (.aload_n 0, 1) := by decide +kernel
theorem dX12_joins_80 : decode cX12_joins 80 = .ok (.getfield 82, 3) := by decide +kernel
theorem dX12_joins_83 : decode cX12_joins 83 = .ok (.iload 4, 2) := by decide +kernel
theorem dX12_joins_85 : decode cX12_joins 85 = .ok (.iconst 0, 1) := by decide +kernel
theorem dX12_joins_86 : decode cX12_joins 86 = .ok (.invokevirtual 85, 3) := by decide +kernel
theorem dX12_joins_89 : decode cX12_joins 89 = .ok (.iinc 4 1, 3) := by decide +kernel
theorem dX12_joins_92 : decode cX12_joins 92 = .ok (.goto (-21), 3) := by decide +kernel
