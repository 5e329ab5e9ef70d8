theorem dX12_send_323 : decode cX12_send 323 = .ok (.iinc 12 1, 3) := by decide +kernel
theorem dX12_send_326 : decode cX12_send 326 = .ok (.goto (-126), 3) := by decide +kernel
theorem dX12_send_329 : decode cX12_send 329 = .ok (.iinc 7 1, 3) := by decide +kernel
theorem dX12_send_332 : decode cX12_send 332 = .ok (.goto (-236), 3) := by decide +kernel
theorem dX12_send_335 : decode cX12_send 335 = .ok (.aload_n 0, 1) := by decide +kernel
theorem dX12_send_336 : decode cX12_send 336 = .ok (.getfield 7, 3) := by decide +kernel
theorem dX12_send_339 : decode cX12_send 339 = .ok (.bipush 8, 2) := by decide +kernel
theorem dX12_send_341 : decode cX12_send 341 = .ok (.dup2, 1) := by decide +kernel
theorem dX12_send_342 : decode cX12_send 342 = .ok (.iaload, 1) := by decide +kernel
theorem dX12_send_343 : decode cX12_send 343 = .ok (.iconst 1, 1) := by decide +kernel
theorem dX12_send_344 : decode cX12_send 344 = .ok (.iadd, 1) := by decide +kernel
theorem dX12_send_345 : decode cX12_send 345 = .ok (.iastore, 1) := by decide +kernel
theorem dX12_send_346 : decode cX12_send 346 = .ok (.aload_n 0, 1) := by decide +kernel
theorem dX12_send_347 : decode cX12_send 347 = .ok (.getfield 7, 3) := by decide +kernel
theorem dX12_send_350 : decode cX12_send 350 = .ok (.bipush 9, 2) := by decide +kernel
theorem dX12_send_352 : decode cX12_send 352 = .ok (.dup2, 1) := by decide +kernel
theorem dX12_send_353 : decode cX12_send 353 = .ok (.iaload, 1) := by decide +kernel
theorem dX12_send_354 : decode cX12_send 354 = .ok (.iload 6, 2) := by decide +kernel
theorem dX12_send_356 : decode cX12_send 356 = .ok (.sipush 1000, 3) := by decide +kernel
theorem dX12_send_359 : decode cX12_send 359 = .ok (.idiv, 1) := by decide +kernel
theorem dX12_send_360 : decode cX12_send 360 = .ok (.iadd, 1) := by decide +kernel
theorem dX12_send_361 : decode cX12_send 361 = .ok (.iastore, 1) := by decide +kernel
theorem dX12_send_362 : decode cX12_send 362 = .ok (.aload_n 0, 1) := by decide +kernel
theorem dX12_send_363 : decode cX12_send 363 = .ok (.getfield 7, 3) := by decide +kernel
theorem dX12_send_366 : decode cX12_send 366 = .ok (.bipush 10, 2) := by decide +kernel
theorem dX12_send_368 : decode cX12_send 368 = .ok (.dup2, 1) := by decide +kernel
theorem dX12_send_369 : decode cX12_send 369 = .ok (.iaload, 1) := by decide +kernel
theorem dX12_send_370 : decode cX12_send 370 = .ok (.iload 5, 2) := by decide +kernel
theorem dX12_send_372 : decode cX12_send 372 = .ok (.iadd, 1) := by decide +kernel
theorem dX12_send_373 : decode cX12_send 373 = .ok (.iastore, 1) := by decide +kernel
theorem dX12_send_374 : decode cX12_send 374 = .ok (.aload_n 0, 1) := by decide +kernel
theorem dX12_send_375 : decode cX12_send 375 = .ok (.iload 5, 2) := by decide +kernel
theorem dX12_send_377 : decode cX12_send 377 = .ok (.iload 6, 2) := by decide +kernel
theorem dX12_send_379 : decode cX12_send 379 = .ok (.iadd, 1) := by decide +kernel
theorem dX12_send_380 : decode cX12_send 380 = .ok (.invokevirtual 76, 3) := by decide +kernel
theorem dX12_send_383 : decode cX12_send 383 = .ok (.ireturn, 1) := by decide +kernel
theorem dX12_entries_0 : decode cX12_entries 0 = .ok (.iconst 0, 1) := by decide +kernel
theorem dX12_entries_1 : decode cX12_entries 1 = .ok (.istore_n 2, 1) := by decide +kernel
theorem dX12_entries_2 : decode cX12_entries 2 = .ok (.iconst 0, 1) := by decide +kernel
theorem dX12_entries_3 : decode cX12_entries 3 = .ok (.istore_n 3, 1) := by decide +kernel
theorem dX12_entries_4 : decode cX12_entries 4 = .ok (.iload_n 3, 1) := by decide +kernel
theorem dX12_entries_5 : decode cX12_entries 5 = .ok (.bipush 8, 2) := by decide +kernel
theorem dX12_entries_7 : decode cX12_entries 7 = .ok (.if_icmp .ge 37, 3) := by decide +kernel
theorem dX12_entries_10 : decode cX12_entries 10 = .ok (.iload_n 2, 1) := by decide +kernel
theorem dX12_entries_11 : decode cX12_entries 11 = .ok (.aload_n 0, 1) := by decide +kernel
theorem dX12_entries_12 : decode cX12_entries 12 = .ok (.getfield 7, 3) := by decide +kernel
theorem dX12_entries_15 : decode cX12_entries 15 = .ok (.bipush 51, 2) := by decide +kernel
theorem dX12_entries_17 : decode cX12_entries 17 = .ok (.bipush 16, 2) := by decide +kernel
theorem dX12_entries_19 : decode cX12_entries 19 = .ok (.iload_n 1, 1) := by decide +kernel
theorem dX12_entries_20 : decode cX12_entries 20 = .ok (.imul, 1) := by decide +kernel
theorem dX12_entries_21 : decode cX12_entries 21 = .ok (.iadd, 1) := by decide +kernel
theorem dX12_entries_22 : decode cX12_entries 22 = .ok (.iconst 2, 1) := by decide +kernel
theorem dX12_entries_23 : decode cX12_entries 23 = .ok (.iload_n 3, 1) := by decide +kernel
theorem dX12_entries_24 : decode cX12_entries 24 = .ok (.imul, 1) := by decide +kernel
theorem dX12_entries_25 : decode cX12_entries 25 = .ok (.iadd, 1) := by decide +kernel
theorem dX12_entries_26 : decode cX12_entries 26 = .ok (.iaload, 1) := by decide +kernel
theorem dX12_entries_27 : decode cX12_entries 27 = .ok (.iconst (-1), 1) := by decide +kernel
theorem dX12_entries_28 : decode cX12_entries 28 = .ok (.if_icmp .eq 7, 3) := by decide +kernel
theorem dX12_entries_31 : decode cX12_entries 31 = .ok (.iconst 1, 1) := by decide +kernel
theorem dX12_entries_32 : decode cX12_entries 32 = .ok (.goto 4, 3) := by decide +kernel
theorem dX12_entries_35 : decode cX12_entries 35 = .ok (.iconst 0, 1) := by decide +kernel
theorem dX12_entries_36 : decode cX12_entries 36 = .ok (.iadd, 1) := by decide +kernel
theorem dX12_entries_37 : decode cX12_entries 37 = .ok (.istore_n 2, 1) := by decide +kernel
theorem dX12_entries_38 : decode cX12_entries 38 = .ok (.iinc 3 1, 3) := by decide +kernel
theorem dX12_entries_41 : decode cX12_entries 41 = .ok (.goto (-37), 3) := by decide +kernel
theorem dX12_entries_44 : decode cX12_entries 44 = .ok (.iload_n 2, 1) := by decide +kernel
theorem dX12_entries_45 : decode cX12_entries 45 = .ok (.ireturn, 1) := by decide +kernel
theorem dX12_bridgeValue_0 : decode cX12_bridgeValue 0 = .ok (.iload_n 2, 1) := by decide +kernel
theorem dX12_bridgeValue_1 : decode cX12_bridgeValue 1 = .ok (.ifCond .ne 11, 3) := by decide +kernel
theorem dX12_bridgeValue_4 : decode cX12_bridgeValue 4 = .ok (.aload_n 0, 1) := by decide +kernel
theorem dX12_bridgeValue_5 : decode cX12_bridgeValue 5 = .ok (.iload_n 1, 1) := by decide +kernel
theorem dX12_bridgeValue_6 : decode cX12_bridgeValue 6 = .ok (.invokevirtual 53, 3) := by decide +kernel
theorem dX12_bridgeValue_9 : decode cX12_bridgeValue 9 = .ok (.goto 29, 3) := by decide +kernel
theorem dX12_bridgeValue_12 : decode cX12_bridgeValue 12 = .ok (.iload_n 2, 1) := by decide +kernel
theorem dX12_bridgeValue_13 : decode cX12_bridgeValue 13 = .ok (.iconst 5, 1) := by decide +kernel
theorem dX12_bridgeValue_14 : decode cX12_bridgeValue 14 = .ok (.if_icmp .ne 11, 3) := by decide +kernel
theorem dX12_bridgeValue_17 : decode cX12_bridgeValue 17 = .ok (.aload_n 0, 1) := by decide +kernel
theorem dX12_bridgeValue_18 : decode cX12_bridgeValue 18 = .ok (.iload_n 1, 1) := by decide +kernel
theorem dX12_bridgeValue_19 : decode cX12_bridgeValue 19 = .ok (.invokevirtual 173, 3) := by decide +kernel
theorem dX12_bridgeValue_22 : decode cX12_bridgeValue 22 = .ok (.goto 16, 3) := by decide +kernel
theorem dX12_bridgeValue_25 : decode cX12_bridgeValue 25 = .ok (.aload_n 0, 1) := by decide +kernel
theorem dX12_bridgeValue_26 : decode cX12_bridgeValue 26 = .ok (.getfield 7, 3) := by decide +kernel
theorem dX12_bridgeValue_29 : decode cX12_bridgeValue 29 = .ok (.bipush 11, 2) := by decide +kernel
theorem dX12_bridgeValue_31 : decode cX12_bridgeValue 31 = .ok (.iconst 5, 1) := by decide +kernel
theorem dX12_bridgeValue_32 : decode cX12_bridgeValue 32 = .ok (.iload_n 1, 1) := by decide +kernel
theorem dX12_bridgeValue_33 : decode cX12_bridgeValue 33 = .ok (.imul, 1) := by decide +kernel
theorem dX12_bridgeValue_34 : decode cX12_bridgeValue 34 = .ok (.iadd, 1) := by decide +kernel
theorem dX12_bridgeValue_35 : decode cX12_bridgeValue 35 = .ok (.iload_n 2, 1) := by decide +kernel
theorem dX12_bridgeValue_36 : decode cX12_bridgeValue 36 = .ok (.iadd, 1) := by decide +kernel
theorem dX12_bridgeValue_37 : decode cX12_bridgeValue 37 = .ok (.iaload, 1) := by decide +kernel
theorem dX12_bridgeValue_38 : decode cX12_bridgeValue 38 = .ok (.ireturn, 1) := by decide +kernel
theorem dX12_bridge_0 : decode cX12_bridge 0 = .ok (.aload_n 0, 1) := by decide +kernel
theorem dX12_bridge_1 : decode cX12_bridge 1 = .ok (.iload_n 1, 1) := by decide +kernel
theorem dX12_bridge_2 : decode cX12_bridge 2 = .ok (.invokevirtual 79, 3) := by decide +kernel
theorem dX12_bridge_5 : decode cX12_bridge 5 = .ok (.ifCond .ne 9, 3) := by decide +kernel
theorem dX12_bridge_8 : decode cX12_bridge 8 = .ok (.aload_n 0, 1) := by decide +kernel
theorem dX12_bridge_9 : decode cX12_bridge 9 = .ok (.iconst 1, 1) := by decide +kernel
theorem dX12_bridge_10 : decode cX12_bridge 10 = .ok (.invokevirtual 70, 3) := by decide +kernel
theorem dX12_bridge_13 : decode cX12_bridge 13 = .ok (.ireturn, 1) := by decide +kernel
theorem dX12_bridge_14 : decode cX12_bridge 14 = .ok (.iload_n 2, 1) := by decide +kernel
theorem dX12_bridge_15 : decode cX12_bridge 15 = .ok (.iconst 0, 1) := by decide +kernel
theorem dX12_bridge_16 : decode cX12_bridge 16 = .ok (.iconst 5, 1) := by decide +kernel
theorem dX12_bridge_17 : decode cX12_bridge 17 = .ok (.invokestatic 49, 3) := by decide +kernel
theorem dX12_bridge_20 : decode cX12_bridge 20 = .ok (.ifCond .eq 16, 3) := by decide +kernel
theorem dX12_bridge_23 : decode cX12_bridge 23 = .ok (.aload_n 0, 1) := by decide +kernel
theorem dX12_bridge_24 : decode cX12_bridge 24 = .ok (.aload_n 0, 1) := by decide +kernel
theorem dX12_bridge_25 : decode cX12_bridge 25 = .ok (.iload_n 1, 1) := by decide +kernel
theorem dX12_bridge_26 : decode cX12_bridge 26 = .ok (.iload_n 2, 1) := by decide +kernel
theorem dX12_bridge_27 : decode cX12_bridge 27 = .ok (.invokevirtual 176, 3) := by decide +kernel
theorem dX12_bridge_30 : decode cX12_bridge 30 = .ok (.invokevirtual 45, 3) := by decide +kernel
theorem dX12_bridge_33 : decode cX12_bridge 33 = .ok (.goto 8, 3) := by decide +kernel
theorem dX12_bridge_36 : decode cX12_bridge 36 = .ok (.aload_n 0, 1) := by decide +kernel
theorem dX12_bridge_37 : decode cX12_bridge 37 = .ok (.iconst 2, 1) := by decide +kernel
theorem dX12_bridge_38 : decode cX12_bridge 38 = .ok (.invokevirtual 70, 3) := by decide +kernel
theorem dX12_bridge_41 : decode cX12_bridge 41 = .ok (.ireturn, 1) := by decide +kernel
theorem dX12_links_0 : decode cX12_links 0 = .ok (.aload_n 0, 1) := by decide +kernel
theorem dX12_links_1 : decode cX12_links 1 = .ok (.aload_n 0, 1) := by decide +kernel
theorem dX12_links_2 : decode cX12_links 2 = .ok (.getfield 7, 3) := by decide +kernel
theorem dX12_links_5 : decode cX12_links 5 = .ok (.iconst 5, 1) := by decide +kernel
theorem dX12_links_6 : decode cX12_links 6 = .ok (.iaload, 1) := by decide +kernel
theorem dX12_links_7 : decode cX12_links 7 = .ok (.invokevirtual 45, 3) := by decide +kernel
theorem dX12_links_10 : decode cX12_links 10 = .ok (.ireturn, 1) := by decide +kernel
theorem dX12_linkValue_0 : decode cX12_linkValue 0 = .ok (.iload_n 2, 1) := by decide +kernel
theorem dX12_linkValue_1 : decode cX12_linkValue 1 = .ok (.bipush 7, 2) := by decide +kernel
theorem dX12_linkValue_3 : decode cX12_linkValue 3 = .ok (.if_icmp .ge 12, 3) := by decide +kernel
theorem dX12_linkValue_6 : decode cX12_linkValue 6 = .ok (.aload_n 0, 1) := by decide +kernel
theorem dX12_linkValue_7 : decode cX12_linkValue 7 = .ok (.iload_n 1, 1) := by decide +kernel
theorem dX12_linkValue_8 : decode cX12_linkValue 8 = .ok (.iload_n 2, 1) := by decide +kernel
theorem dX12_linkValue_9 : decode cX12_linkValue 9 = .ok (.invokevirtual 62, 3) := by decide +kernel
theorem dX12_linkValue_12 : decode cX12_linkValue 12 = .ok (.goto 32, 3) := by decide +kernel
theorem dX12_linkValue_15 : decode cX12_linkValue 15 = .ok (.iload_n 2, 1) := by decide +kernel
theorem dX12_linkValue_16 : decode cX12_linkValue 16 = .ok (.bipush 7, 2) := by decide +kernel
theorem dX12_linkValue_18 : decode cX12_linkValue 18 = .ok (.if_icmp .ne 19, 3) := by decide +kernel
theorem dX12_linkValue_21 : decode cX12_linkValue 21 = .ok (.aload_n 0, 1) := by decide +kernel
theorem dX12_linkValue_22 : decode cX12_linkValue 22 = .ok (.iload_n 1, 1) := by decide +kernel
theorem dX12_linkValue_23 : decode cX12_linkValue 23 = .ok (.invokevirtual 66, 3) := by decide +kernel
theorem dX12_linkValue_26 : decode cX12_linkValue 26 = .ok (.ifCond .eq 7, 3) := by decide +kernel
theorem dX12_linkValue_29 : decode cX12_linkValue 29 = .ok (.iconst 1, 1) := by decide +kernel
theorem dX12_linkValue_30 : decode cX12_linkValue 30 = .ok (.goto 14, 3) := by decide +kernel
theorem dX12_linkValue_33 : decode cX12_linkValue 33 = .ok (.iconst 0, 1) := by decide +kernel
theorem dX12_linkValue_34 : decode cX12_linkValue 34 = .ok (.goto 10, 3) := by decide +kernel
theorem dX12_linkValue_37 : decode cX12_linkValue 37 = .ok (.aload_n 0, 1) := by decide +kernel
theorem dX12_linkValue_38 : decode cX12_linkValue 38 = .ok (.iload_n 1, 1) := by decide +kernel
theorem dX12_linkValue_39 : decode cX12_linkValue 39 = .ok (.bipush 7, 2) := by decide +kernel
theorem dX12_linkValue_41 : decode cX12_linkValue 41 = .ok (.invokevirtual 62, 3) := by decide +kernel
theorem dX12_linkValue_44 : decode cX12_linkValue 44 = .ok (.ireturn, 1) := by decide +kernel
theorem dX12_link_0 : decode cX12_link 0 = .ok (.aload_n 0, 1) := by decide +kernel
theorem dX12_link_1 : decode cX12_link 1 = .ok (.iload_n 1, 1) := by decide +kernel
theorem dX12_link_2 : decode cX12_link 2 = .ok (.invokevirtual 89, 3) := by decide +kernel
theorem dX12_link_5 : decode cX12_link 5 = .ok (.ifCond .ne 9, 3) := by decide +kernel
theorem dX12_link_8 : decode cX12_link 8 = .ok (.aload_n 0, 1) := by decide +kernel
theorem dX12_link_9 : decode cX12_link 9 = .ok (.iconst 1, 1) := by decide +kernel
theorem dX12_link_10 : decode cX12_link 10 = .ok (.invokevirtual 70, 3) := by decide +kernel
theorem dX12_link_13 : decode cX12_link 13 = .ok (.ireturn, 1) := by decide +kernel
theorem dX12_link_14 : decode cX12_link 14 = .ok (.iload_n 2, 1) := by decide +kernel
theorem dX12_link_15 : decode cX12_link 15 = .ok (.iconst 0, 1) := by decide +kernel
theorem dX12_link_16 : decode cX12_link 16 = .ok (.bipush 8, 2) := by decide +kernel
theorem dX12_link_18 : decode cX12_link 18 = .ok (.invokestatic 49, 3) := by decide +kernel
theorem dX12_link_21 : decode cX12_link 21 = .ok (.ifCond .eq 16, 3) := by decide +kernel
theorem dX12_link_24 : decode cX12_link 24 = .ok (.aload_n 0, 1) := by decide +kernel
theorem dX12_link_25 : decode cX12_link 25 = .ok (.aload_n 0, 1) := by decide +kernel
theorem dX12_link_26 : decode cX12_link 26 = .ok (.iload_n 1, 1) := by decide +kernel
theorem dX12_link_27 : decode cX12_link 27 = .ok (.iload_n 2, 1) := by decide +kernel
theorem dX12_link_28 : decode cX12_link 28 = .ok (.invokevirtual 179, 3) := by decide +kernel
theorem dX12_link_31 : decode cX12_link 31 = .ok (.invokevirtual 45, 3) := by decide +kernel
theorem dX12_link_34 : decode cX12_link 34 = .ok (.goto 8, 3) := by decide +kernel
theorem dX12_link_37 : decode cX12_link 37 = .ok (.aload_n 0, 1) := by decide +kernel
theorem dX12_link_38 : decode cX12_link 38 = .ok (.iconst 2, 1) := by decide +kernel
theorem dX12_link_39 : decode cX12_link 39 = .ok (.invokevirtual 70, 3) := by decide +kernel
theorem dX12_link_42 : decode cX12_link 42 = .ok (.ireturn, 1) := by decide +kernel
theorem dX12_port_0 : decode cX12_port 0 = .ok (.aload_n 0, 1) := by decide +kernel
theorem dX12_port_1 : decode cX12_port 1 = .ok (.iload_n 1, 1) := by decide +kernel
theorem dX12_port_2 : decode cX12_port 2 = .ok (.invokevirtual 89, 3) := by decide +kernel
theorem dX12_port_5 : decode cX12_port 5 = .ok (.ifCond .ne 9, 3) := by decide +kernel
theorem dX12_port_8 : decode cX12_port 8 = .ok (.aload_n 0, 1) := by decide +kernel
theorem dX12_port_9 : decode cX12_port 9 = .ok (.iconst 1, 1) := by decide +kernel
theorem dX12_port_10 : decode cX12_port 10 = .ok (.invokevirtual 70, 3) := by decide +kernel
theorem dX12_port_13 : decode cX12_port 13 = .ok (.ireturn, 1) := by decide +kernel
theorem dX12_port_14 : decode cX12_port 14 = .ok (.iload_n 3, 1) := by decide +kernel
theorem dX12_port_15 : decode cX12_port 15 = .ok (.iconst 0, 1) := by decide +kernel
theorem dX12_port_16 : decode cX12_port 16 = .ok (.iconst 2, 1) := by decide +kernel
theorem dX12_port_17 : decode cX12_port 17 = .ok (.invokestatic 49, 3) := by decide +kernel
theorem dX12_port_20 : decode cX12_port 20 = .ok (.ifCond .eq 29, 3) := by decide +kernel
theorem dX12_port_23 : decode cX12_port 23 = .ok (.aload_n 0, 1) := by decide +kernel
theorem dX12_port_24 : decode cX12_port 24 = .ok (.aload_n 0, 1) := by decide +kernel
theorem dX12_port_25 : decode cX12_port 25 = .ok (.iload_n 1, 1) := by decide +kernel
theorem dX12_port_26 : decode cX12_port 26 = .ok (.bipush 8, 2) := by decide +kernel
theorem dX12_port_28 : decode cX12_port 28 = .ok (.iload_n 2, 1) := by decide +kernel
theorem dX12_port_29 : decode cX12_port 29 = .ok (.ifCond .eq 7, 3) := by decide +kernel
theorem dX12_port_32 : decode cX12_port 32 = .ok (.iconst 3, 1) := by decide +kernel
theorem dX12_port_33 : decode cX12_port 33 = .ok (.goto 4, 3) := by decide +kernel
theorem dX12_port_36 : decode cX12_port 36 = .ok (.iconst 0, 1) := by decide +kernel
theorem dX12_port_37 : decode cX12_port 37 = .ok (.iadd, 1) := by decide +kernel
theorem dX12_port_38 : decode cX12_port 38 = .ok (.iload_n 3, 1) := by decide +kernel
theorem dX12_port_39 : decode cX12_port 39 = .ok (.iadd, 1) := by decide +kernel
theorem dX12_port_40 : decode cX12_port 40 = .ok (.invokevirtual 62, 3) := by decide +kernel
theorem dX12_port_43 : decode cX12_port 43 = .ok (.invokevirtual 45, 3) := by decide +kernel
theorem dX12_port_46 : decode cX12_port 46 = .ok (.goto 8, 3) := by decide +kernel
theorem dX12_port_49 : decode cX12_port 49 = .ok (.aload_n 0, 1) := by decide +kernel
theorem dX12_port_50 : decode cX12_port 50 = .ok (.iconst 2, 1) := by decide +kernel
theorem dX12_port_51 : decode cX12_port 51 = .ok (.invokevirtual 70, 3) := by decide +kernel
theorem dX12_port_54 : decode cX12_port 54 = .ok (.ireturn, 1) := by decide +kernel
theorem dX12_entry_0 : decode cX12_entry 0 = .ok (.aload_n 0, 1) := by decide +kernel
theorem dX12_entry_1 : decode cX12_entry 1 = .ok (.iload_n 1, 1) := by decide +kernel
theorem dX12_entry_2 : decode cX12_entry 2 = .ok (.invokevirtual 79, 3) := by decide +kernel
theorem dX12_entry_5 : decode cX12_entry 5 = .ok (.ifCond .eq 23, 3) := by decide +kernel
theorem dX12_entry_8 : decode cX12_entry 8 = .ok (.iload_n 2, 1) := by decide +kernel
theorem dX12_entry_9 : decode cX12_entry 9 = .ok (.invokestatic 92, 3) := by decide +kernel
theorem dX12_entry_12 : decode cX12_entry 12 = .ok (.ifCond .eq 16, 3) := by decide +kernel
theorem dX12_entry_15 : decode cX12_entry 15 = .ok (.aload_n 0, 1) := by decide +kernel
theorem dX12_entry_16 : decode cX12_entry 16 = .ok (.aload_n 0, 1) := by decide +kernel
theorem dX12_entry_17 : decode cX12_entry 17 = .ok (.iload_n 1, 1) := by decide +kernel
theorem dX12_entry_18 : decode cX12_entry 18 = .ok (.iload_n 2, 1) := by decide +kernel
theorem dX12_entry_19 : decode cX12_entry 19 = .ok (.invokevirtual 170, 3) := by decide +kernel
theorem dX12_entry_22 : decode cX12_entry 22 = .ok (.invokevirtual 45, 3) := by decide +kernel
theorem dX12_entry_25 : decode cX12_entry 25 = .ok (.goto 8, 3) := by decide +kernel
theorem dX12_entry_28 : decode cX12_entry 28 = .ok (.aload_n 0, 1) := by decide +kernel
theorem dX12_entry_29 : decode cX12_entry 29 = .ok (.iconst 1, 1) := by decide +kernel
theorem dX12_entry_30 : decode cX12_entry 30 = .ok (.invokevirtual 70, 3) := by decide +kernel
theorem dX12_entry_33 : decode cX12_entry 33 = .ok (.ireturn, 1) := by decide +kernel
theorem dX12_won_0 : decode cX12_won 0 = .ok (.iconst 0, 1) := by decide +kernel
theorem dX12_won_1 : decode cX12_won 1 = .ok (.istore_n 2, 1) := by decide +kernel
theorem dX12_won_2 : decode cX12_won 2 = .ok (.iconst 0, 1) := by decide +kernel
theorem dX12_won_3 : decode cX12_won 3 = .ok (.istore_n 3, 1) := by decide +kernel
theorem dX12_won_4 : decode cX12_won 4 = .ok (.iload_n 3, 1) := by decide +kernel
theorem dX12_won_5 : decode cX12_won 5 = .ok (.aload_n 0, 1) := by decide +kernel
theorem dX12_won_6 : decode cX12_won 6 = .ok (.getfield 7, 3) := by decide +kernel
theorem dX12_won_9 : decode cX12_won 9 = .ok (.iconst 5, 1) := by decide +kernel
theorem dX12_won_10 : decode cX12_won 10 = .ok (.iaload, 1) := by decide +kernel
theorem dX12_won_11 : decode cX12_won 11 = .ok (.if_icmp .ge 27, 3) := by decide +kernel
theorem dX12_won_14 : decode cX12_won 14 = .ok (.iload_n 2, 1) := by decide +kernel
theorem dX12_won_15 : decode cX12_won 15 = .ok (.aload_n 0, 1) := by decide +kernel
theorem dX12_won_16 : decode cX12_won 16 = .ok (.iload_n 3, 1) := by decide +kernel
theorem dX12_won_17 : decode cX12_won 17 = .ok (.iconst 5, 1) := by decide +kernel
theorem dX12_won_18 : decode cX12_won 18 = .ok (.invokevirtual 62, 3) := by decide +kernel
theorem dX12_won_21 : decode cX12_won 21 = .ok (.iload_n 1, 1) := by decide +kernel
theorem dX12_won_22 : decode cX12_won 22 = .ok (.if_icmp .ne 7, 3) := by decide +kernel
theorem dX12_won_25 : decode cX12_won 25 = .ok (.iconst 1, 1) := by decide +kernel
theorem dX12_won_26 : decode cX12_won 26 = .ok (.goto 4, 3) := by decide +kernel
theorem dX12_won_29 : decode cX12_won 29 = .ok (.iconst 0, 1) := by decide +kernel
theorem dX12_won_30 : decode cX12_won 30 = .ok (.iadd, 1) := by decide +kernel
theorem dX12_won_31 : decode cX12_won 31 = .ok (.istore_n 2, 1) := by decide +kernel
theorem dX12_won_32 : decode cX12_won 32 = .ok (.iinc 3 1, 3) := by decide +kernel
theorem dX12_won_35 : decode cX12_won 35 = .ok (.goto (-31), 3) := by decide +kernel
theorem dX12_won_38 : decode cX12_won 38 = .ok (.iload_n 2, 1) := by decide +kernel
theorem dX12_won_39 : decode cX12_won 39 = .ok (.ireturn, 1) := by decide +kernel
theorem dX12_tenantValue_0 : decode cX12_tenantValue 0 = .ok (.iload_n 2, 1) := by decide +kernel
theorem dX12_tenantValue_1 : decode cX12_tenantValue 1 = .ok (.iconst 1, 1) := by decide +kernel
theorem dX12_tenantValue_2 : decode cX12_tenantValue 2 = .ok (.if_icmp .ne 11, 3) := by decide +kernel
theorem dX12_tenantValue_5 : decode cX12_tenantValue 5 = .ok (.aload_n 0, 1) := by decide +kernel
theorem dX12_tenantValue_6 : decode cX12_tenantValue 6 = .ok (.iload_n 1, 1) := by decide +kernel
theorem dX12_tenantValue_7 : decode cX12_tenantValue 7 = .ok (.invokevirtual 182, 3) := by decide +kernel
theorem dX12_tenantValue_10 : decode cX12_tenantValue 10 = .ok (.goto 27, 3) := by decide +kernel
theorem dX12_tenantValue_13 : decode cX12_tenantValue 13 = .ok (.aload_n 0, 1) := by decide +kernel
theorem dX12_tenantValue_14 : decode cX12_tenantValue 14 = .ok (.getfield 7, 3) := by decide +kernel
theorem dX12_tenantValue_17 : decode cX12_tenantValue 17 = .ok (.sipush 187, 3) := by decide +kernel
theorem dX12_tenantValue_20 : decode cX12_tenantValue 20 = .ok (.iconst 3, 1) := by decide +kernel
theorem dX12_tenantValue_21 : decode cX12_tenantValue 21 = .ok (.iload_n 1, 1) := by decide +kernel
theorem dX12_tenantValue_22 : decode cX12_tenantValue 22 = .ok (.imul, 1) := by decide +kernel
theorem dX12_tenantValue_23 : decode cX12_tenantValue 23 = .ok (.iadd, 1) := by decide +kernel
theorem dX12_tenantValue_24 : decode cX12_tenantValue 24 = .ok (.iload_n 2, 1) := by decide +kernel
theorem dX12_tenantValue_25 : decode cX12_tenantValue 25 = .ok (.ifCond .ne 7, 3) := by decide +kernel
theorem dX12_tenantValue_28 : decode cX12_tenantValue 28 = .ok (.iconst 0, 1) := by decide +kernel
theorem dX12_tenantValue_29 : decode cX12_tenantValue 29 = .ok (.goto 6, 3) := by decide +kernel
theorem dX12_tenantValue_32 : decode cX12_tenantValue 32 = .ok (.iload_n 2, 1) := by decide +kernel
theorem dX12_tenantValue_33 : decode cX12_tenantValue 33 = .ok (.iconst 1, 1) := by decide +kernel
theorem dX12_tenantValue_34 : decode cX12_tenantValue 34 = .ok (.isub, 1) := by decide +kernel
theorem dX12_tenantValue_35 : decode cX12_tenantValue 35 = .ok (.iadd, 1) := by decide +kernel
theorem dX12_tenantValue_36 : decode cX12_tenantValue 36 = .ok (.iaload, 1) := by decide +kernel
theorem dX12_tenantValue_37 : decode cX12_tenantValue 37 = .ok (.ireturn, 1) := by decide +kernel
theorem dX12_tenant_0 : decode cX12_tenant 0 = .ok (.iload_n 1, 1) := by decide +kernel
theorem dX12_tenant_1 : decode cX12_tenant 1 = .ok (.invokestatic 95, 3) := by decide +kernel
theorem dX12_tenant_4 : decode cX12_tenant 4 = .ok (.ifCond .ne 9, 3) := by decide +kernel
theorem dX12_tenant_7 : decode cX12_tenant 7 = .ok (.aload_n 0, 1) := by decide +kernel
theorem dX12_tenant_8 : decode cX12_tenant 8 = .ok (.iconst 1, 1) := by decide +kernel
theorem dX12_tenant_9 : decode cX12_tenant 9 = .ok (.invokevirtual 70, 3) := by decide +kernel
theorem dX12_tenant_12 : decode cX12_tenant 12 = .ok (.ireturn, 1) := by decide +kernel
theorem dX12_tenant_13 : decode cX12_tenant 13 = .ok (.iload_n 2, 1) := by decide +kernel
theorem dX12_tenant_14 : decode cX12_tenant 14 = .ok (.iconst 0, 1) := by decide +kernel
theorem dX12_tenant_15 : decode cX12_tenant 15 = .ok (.iconst 3, 1) := by decide +kernel
theorem dX12_tenant_16 : decode cX12_tenant 16 = .ok (.invokestatic 49, 3) := by decide +kernel
theorem dX12_tenant_19 : decode cX12_tenant 19 = .ok (.ifCond .eq 16, 3) := by decide +kernel
theorem dX12_tenant_22 : decode cX12_tenant 22 = .ok (.aload_n 0, 1) := by decide +kernel
theorem dX12_tenant_23 : decode cX12_tenant 23 = .ok (.aload_n 0, 1) := by decide +kernel
theorem dX12_tenant_24 : decode cX12_tenant 24 = .ok (.iload_n 1, 1) := by decide +kernel
theorem dX12_tenant_25 : decode cX12_tenant 25 = .ok (.iload_n 2, 1) := by decide +kernel
theorem dX12_tenant_26 : decode cX12_tenant 26 = .ok (.invokevirtual 185, 3) := by decide +kernel
theorem dX12_tenant_29 : decode cX12_tenant 29 = .ok (.invokevirtual 45, 3) := by decide +kernel
theorem dX12_tenant_32 : decode cX12_tenant 32 = .ok (.goto 8, 3) := by decide +kernel
theorem dX12_tenant_35 : decode cX12_tenant 35 = .ok (.aload_n 0, 1) := by decide +kernel
theorem dX12_tenant_36 : decode cX12_tenant 36 = .ok (.iconst 2, 1) := by decide +kernel
theorem dX12_tenant_37 : decode cX12_tenant 37 = .ok (.invokevirtual 70, 3) := by decide +kernel
theorem dX12_tenant_40 : decode cX12_tenant 40 = .ok (.ireturn, 1) := by decide +kernel
theorem dX12_bidOf_0 : decode cX12_bidOf 0 = .ok (.iload_n 1, 1) := by decide +kernel
theorem dX12_bidOf_1 : decode cX12_bidOf 1 = .ok (.invokestatic 95, 3) := by decide +kernel
theorem dX12_bidOf_4 : decode cX12_bidOf 4 = .ok (.ifCond .eq 27, 3) := by decide +kernel
theorem dX12_bidOf_7 : decode cX12_bidOf 7 = .ok (.aload_n 0, 1) := by decide +kernel
theorem dX12_bidOf_8 : decode cX12_bidOf 8 = .ok (.iload_n 2, 1) := by decide +kernel
theorem dX12_bidOf_9 : decode cX12_bidOf 9 = .ok (.invokevirtual 89, 3) := by decide +kernel
theorem dX12_bidOf_12 : decode cX12_bidOf 12 = .ok (.ifCond .eq 19, 3) := by decide +kernel
theorem dX12_bidOf_15 : decode cX12_bidOf 15 = .ok (.aload_n 0, 1) := by decide +kernel
theorem dX12_bidOf_16 : decode cX12_bidOf 16 = .ok (.aload_n 0, 1) := by decide +kernel
theorem dX12_bidOf_17 : decode cX12_bidOf 17 = .ok (.iload_n 2, 1) := by decide +kernel
theorem dX12_bidOf_18 : decode cX12_bidOf 18 = .ok (.bipush 14, 2) := by decide +kernel
theorem dX12_bidOf_20 : decode cX12_bidOf 20 = .ok (.iload_n 1, 1) := by decide +kernel
theorem dX12_bidOf_21 : decode cX12_bidOf 21 = .ok (.iadd, 1) := by decide +kernel
theorem dX12_bidOf_22 : decode cX12_bidOf 22 = .ok (.invokevirtual 62, 3) := by decide +kernel
theorem dX12_bidOf_25 : decode cX12_bidOf 25 = .ok (.invokevirtual 45, 3) := by decide +kernel
theorem dX12_bidOf_28 : decode cX12_bidOf 28 = .ok (.goto 8, 3) := by decide +kernel
theorem dX12_bidOf_31 : decode cX12_bidOf 31 = .ok (.aload_n 0, 1) := by decide +kernel
theorem dX12_bidOf_32 : decode cX12_bidOf 32 = .ok (.iconst 1, 1) := by decide +kernel
theorem dX12_bidOf_33 : decode cX12_bidOf 33 = .ok (.invokevirtual 70, 3) := by decide +kernel
theorem dX12_bidOf_36 : decode cX12_bidOf 36 = .ok (.ireturn, 1) := by decide +kernel
theorem dX12_carrying_0 : decode cX12_carrying 0 = .ok (.iconst 0, 1) := by decide +kernel
theorem dX12_carrying_1 : decode cX12_carrying 1 = .ok (.istore_n 1, 1) := by decide +kernel
theorem dX12_carrying_2 : decode cX12_carrying 2 = .ok (.iconst 0, 1) := by decide +kernel
theorem dX12_carrying_3 : decode cX12_carrying 3 = .ok (.istore_n 2, 1) := by decide +kernel
theorem dX12_carrying_4 : decode cX12_carrying 4 = .ok (.iload_n 2, 1) := by decide +kernel
theorem dX12_carrying_5 : decode cX12_carrying 5 = .ok (.aload_n 0, 1) := by decide +kernel
theorem dX12_carrying_6 : decode cX12_carrying 6 = .ok (.getfield 7, 3) := by decide +kernel
theorem dX12_carrying_9 : decode cX12_carrying 9 = .ok (.iconst 5, 1) := by decide +kernel
theorem dX12_carrying_10 : decode cX12_carrying 10 = .ok (.iaload, 1) := by decide +kernel
theorem dX12_carrying_11 : decode cX12_carrying 11 = .ok (.if_icmp .ge 25, 3) := by decide +kernel
theorem dX12_carrying_14 : decode cX12_carrying 14 = .ok (.iload_n 1, 1) := by decide +kernel
theorem dX12_carrying_15 : decode cX12_carrying 15 = .ok (.aload_n 0, 1) := by decide +kernel
theorem dX12_carrying_16 : decode cX12_carrying 16 = .ok (.iload_n 2, 1) := by decide +kernel
theorem dX12_carrying_17 : decode cX12_carrying 17 = .ok (.invokevirtual 66, 3) := by decide +kernel
theorem dX12_carrying_20 : decode cX12_carrying 20 = .ok (.ifCond .eq 7, 3) := by decide +kernel
theorem dX12_carrying_23 : decode cX12_carrying 23 = .ok (.iconst 1, 1) := by decide +kernel
theorem dX12_carrying_24 : decode cX12_carrying 24 = .ok (.goto 4, 3) := by decide +kernel
theorem dX12_carrying_27 : decode cX12_carrying 27 = .ok (.iconst 0, 1) := by decide +kernel
theorem dX12_carrying_28 : decode cX12_carrying 28 = .ok (.iadd, 1) := by decide +kernel
theorem dX12_carrying_29 : decode cX12_carrying 29 = .ok (.istore_n 1, 1) := by decide +kernel
theorem dX12_carrying_30 : decode cX12_carrying 30 = .ok (.iinc 2 1, 3) := by decide +kernel
theorem dX12_carrying_33 : decode cX12_carrying 33 = .ok (.goto (-29), 3) := by decide +kernel
theorem dX12_carrying_36 : decode cX12_carrying 36 = .ok (.iload_n 1, 1) := by decide +kernel
theorem dX12_carrying_37 : decode cX12_carrying 37 = .ok (.ireturn, 1) := by decide +kernel
theorem dX12_pairs_0 : decode cX12_pairs 0 = .ok (.iconst 0, 1) := by decide +kernel
theorem dX12_pairs_1 : decode cX12_pairs 1 = .ok (.istore_n 1, 1) := by decide +kernel
theorem dX12_pairs_2 : decode cX12_pairs 2 = .ok (.iconst 0, 1) := by decide +kernel
theorem dX12_pairs_3 : decode cX12_pairs 3 = .ok (.istore_n 2, 1) := by decide +kernel
theorem dX12_pairs_4 : decode cX12_pairs 4 = .ok (.iload_n 2, 1) := by decide +kernel
theorem dX12_pairs_5 : decode cX12_pairs 5 = .ok (.aload_n 0, 1) := by decide +kernel
theorem dX12_pairs_6 : decode cX12_pairs 6 = .ok (.getfield 7, 3) := by decide +kernel
theorem dX12_pairs_9 : decode cX12_pairs 9 = .ok (.iconst 0, 1) := by decide +kernel
theorem dX12_pairs_10 : decode cX12_pairs 10 = .ok (.iaload, 1) := by decide +kernel
theorem dX12_pairs_11 : decode cX12_pairs 11 = .ok (.if_icmp .ge 46, 3) := by decide +kernel
theorem dX12_pairs_14 : decode cX12_pairs 14 = .ok (.aload_n 0, 1) := by decide +kernel
theorem dX12_pairs_15 : decode cX12_pairs 15 = .ok (.iload_n 2, 1) := by decide +kernel
theorem dX12_pairs_16 : decode cX12_pairs 16 = .ok (.invokevirtual 164, 3) := by decide +kernel
theorem dX12_pairs_19 : decode cX12_pairs 19 = .ok (.istore_n 3, 1) := by decide +kernel
theorem dX12_pairs_20 : decode cX12_pairs 20 = .ok (.iload_n 2, 1) := by decide +kernel
theorem dX12_pairs_21 : decode cX12_pairs 21 = .ok (.iconst 1, 1) := by decide +kernel
theorem dX12_pairs_22 : decode cX12_pairs 22 = .ok (.iadd, 1) := by decide +kernel
theorem dX12_pairs_23 : decode cX12_pairs 23 = .ok (.istore 4, 2) := by decide +kernel
theorem dX12_pairs_25 : decode cX12_pairs 25 = .ok (.iload 4, 2) := by decide +kernel
theorem dX12_pairs_27 : decode cX12_pairs 27 = .ok (.aload_n 0, 1) := by decide +kernel
theorem dX12_pairs_28 : decode cX12_pairs 28 = .ok (.getfield 7, 3) := by decide +kernel
theorem dX12_pairs_31 : decode cX12_pairs 31 = .ok (.iconst 0, 1) := by decide +kernel
theorem dX12_pairs_32 : decode cX12_pairs 32 = .ok (.iaload, 1) := by decide +kernel
theorem dX12_pairs_33 : decode cX12_pairs 33 = .ok (.if_icmp .ge 18, 3) := by decide +kernel
theorem dX12_pairs_36 : decode cX12_pairs 36 = .ok (.iload_n 1, 1) := by decide +kernel
theorem dX12_pairs_37 : decode cX12_pairs 37 = .ok (.iload_n 3, 1) := by decide +kernel
theorem dX12_pairs_38 : decode cX12_pairs 38 = .ok (.iload 4, 2) := by decide +kernel
theorem dX12_pairs_40 : decode cX12_pairs 40 = .ok (.ishr, 1) := by decide +kernel
theorem dX12_pairs_41 : decode cX12_pairs 41 = .ok (.iconst 1, 1) := by decide +kernel
theorem dX12_pairs_42 : decode cX12_pairs 42 = .ok (.iand, 1) := by decide +kernel
theorem dX12_pairs_43 : decode cX12_pairs 43 = .ok (.iadd, 1) := by decide +kernel
theorem dX12_pairs_44 : decode cX12_pairs 44 = .ok (.istore_n 1, 1) := by decide +kernel
theorem dX12_pairs_45 : decode cX12_pairs 45 = .ok (.iinc 4 1, 3) := by decide +kernel
theorem dX12_pairs_48 : decode cX12_pairs 48 = .ok (.goto (-23), 3) := by decide +kernel
theorem dX12_pairs_51 : decode cX12_pairs 51 = .ok (.iinc 2 1, 3) := by decide +kernel
theorem dX12_pairs_54 : decode cX12_pairs 54 = .ok (.goto (-50), 3) := by decide +kernel
theorem dX12_pairs_57 : decode cX12_pairs 57 = .ok (.iload_n 1, 1) := by decide +kernel
theorem dX12_pairs_58 : decode cX12_pairs 58 = .ok (.ireturn, 1) := by decide +kernel
theorem dX12_counted_0 : decode cX12_counted 0 = .ok (.iload_n 1, 1) := by decide +kernel
theorem dX12_counted_1 : decode cX12_counted 1 = .ok (.iconst 5, 1) := by decide +kernel
theorem dX12_counted_2 : decode cX12_counted 2 = .ok (.if_icmp .ge 15, 3) := by decide +kernel
theorem dX12_counted_5 : decode cX12_counted 5 = .ok (.aload_n 0, 1) := by decide +kernel
theorem dX12_counted_6 : decode cX12_counted 6 = .ok (.getfield 7, 3) := by decide +kernel
theorem dX12_counted_9 : decode cX12_counted 9 = .ok (.bipush 6, 2) := by decide +kernel
theorem dX12_counted_11 : decode cX12_counted 11 = .ok (.iload_n 1, 1) := by decide +kernel
theorem dX12_counted_12 : decode cX12_counted 12 = .ok (.iadd, 1) := by decide +kernel
theorem dX12_counted_13 : decode cX12_counted 13 = .ok (.iaload, 1) := by decide +kernel
theorem dX12_counted_14 : decode cX12_counted 14 = .ok (.goto 19, 3) := by decide +kernel
theorem dX12_counted_17 : decode cX12_counted 17 = .ok (.iload_n 1, 1) := by decide +kernel
theorem dX12_counted_18 : decode cX12_counted 18 = .ok (.iconst 5, 1) := by decide +kernel
theorem dX12_counted_19 : decode cX12_counted 19 = .ok (.if_icmp .ne 10, 3) := by decide +kernel
theorem dX12_counted_22 : decode cX12_counted 22 = .ok (.aload_n 0, 1) := by decide +kernel
theorem dX12_counted_23 : decode cX12_counted 23 = .ok (.invokevirtual 188, 3) := by decide +kernel
theorem dX12_counted_26 : decode cX12_counted 26 = .ok (.goto 7, 3) := by decide +kernel
theorem dX12_counted_29 : decode cX12_counted 29 = .ok (.aload_n 0, 1) := by decide +kernel
theorem dX12_counted_30 : decode cX12_counted 30 = .ok (.invokevirtual 192, 3) := by decide +kernel
theorem dX12_counted_33 : decode cX12_counted 33 = .ok (.ireturn, 1) := by decide +kernel
theorem dX12_count_0 : decode cX12_count 0 = .ok (.iload_n 1, 1) := by decide +kernel
theorem dX12_count_1 : decode cX12_count 1 = .ok (.iconst 0, 1) := by decide +kernel
theorem dX12_count_2 : decode cX12_count 2 = .ok (.bipush 6, 2) := by decide +kernel
theorem dX12_count_4 : decode cX12_count 4 = .ok (.invokestatic 49, 3) := by decide +kernel
theorem dX12_count_7 : decode cX12_count 7 = .ok (.ifCond .eq 15, 3) := by decide +kernel
theorem dX12_count_10 : decode cX12_count 10 = .ok (.aload_n 0, 1) := by decide +kernel
theorem dX12_count_11 : decode cX12_count 11 = .ok (.aload_n 0, 1) := by decide +kernel
theorem dX12_count_12 : decode cX12_count 12 = .ok (.iload_n 1, 1) := by decide +kernel
theorem dX12_count_13 : decode cX12_count 13 = .ok (.invokevirtual 195, 3) := by decide +kernel
theorem dX12_count_16 : decode cX12_count 16 = .ok (.invokevirtual 45, 3) := by decide +kernel
theorem dX12_count_19 : decode cX12_count 19 = .ok (.goto 8, 3) := by decide +kernel
theorem dX12_count_22 : decode cX12_count 22 = .ok (.aload_n 0, 1) := by decide +kernel
theorem dX12_count_23 : decode cX12_count 23 = .ok (.iconst 1, 1) := by decide +kernel
theorem dX12_count_24 : decode cX12_count 24 = .ok (.invokevirtual 70, 3) := by decide +kernel
theorem dX12_count_27 : decode cX12_count 27 = .ok (.ireturn, 1) := by decide +kernel
theorem dX12_isWithoutCycle_0 : decode cX12_isWithoutCycle 0 = .ok (.iconst 0, 1) := by decide +kernel
theorem dX12_isWithoutCycle_1 : decode cX12_isWithoutCycle 1 = .ok (.istore_n 1, 1) := by decide +kernel
theorem dX12_isWithoutCycle_2 : decode cX12_isWithoutCycle 2 = .ok (.iconst 0, 1) := by decide +kernel
theorem dX12_isWithoutCycle_3 : decode cX12_isWithoutCycle 3 = .ok (.istore_n 2, 1) := by decide +kernel
theorem dX12_isWithoutCycle_4 : decode cX12_isWithoutCycle 4 = .ok (.iload_n 2, 1) := by decide +kernel
theorem dX12_isWithoutCycle_5 : decode cX12_isWithoutCycle 5 = .ok (.aload_n 0, 1) := by decide +kernel
theorem dX12_isWithoutCycle_6 : decode cX12_isWithoutCycle 6 = .ok (.getfield 7, 3) := by decide +kernel
theorem dX12_isWithoutCycle_9 : decode cX12_isWithoutCycle 9 = .ok (.iconst 0, 1) := by decide +kernel
theorem dX12_isWithoutCycle_10 : decode cX12_isWithoutCycle 10 = .ok (.iaload, 1) := by decide +kernel
theorem dX12_isWithoutCycle_11 : decode cX12_isWithoutCycle 11 = .ok (.if_icmp .ge 31, 3) := by decide +kernel
theorem dX12_isWithoutCycle_14 : decode cX12_isWithoutCycle 14 = .ok (.iload_n 1, 1) := by decide +kernel
theorem dX12_isWithoutCycle_15 : decode cX12_isWithoutCycle 15 = .ok (.aload_n 0, 1) := by decide +kernel
theorem dX12_isWithoutCycle_16 : decode cX12_isWithoutCycle 16 = .ok (.iload_n 2, 1) := by decide +kernel
theorem dX12_isWithoutCycle_17 : decode cX12_isWithoutCycle 17 = .ok (.invokevirtual 164, 3) := by decide +kernel
theorem dX12_isWithoutCycle_20 : decode cX12_isWithoutCycle 20 = .ok (.iconst 1, 1) := by decide +kernel
theorem dX12_isWithoutCycle_21 : decode cX12_isWithoutCycle 21 = .ok (.iload_n 2, 1) := by decide +kernel
theorem dX12_isWithoutCycle_22 : decode cX12_isWithoutCycle 22 = .ok (.ishl, 1) := by decide +kernel
theorem dX12_isWithoutCycle_23 : decode cX12_isWithoutCycle 23 = .ok (.iconst 1, 1) := by decide +kernel
theorem dX12_isWithoutCycle_24 : decode cX12_isWithoutCycle 24 = .ok (.isub, 1) := by decide +kernel
theorem dX12_isWithoutCycle_25 : decode cX12_isWithoutCycle 25 = .ok (.iand, 1) := by decide +kernel
theorem dX12_isWithoutCycle_26 : decode cX12_isWithoutCycle 26 = .ok (.ifCond .ne 7, 3) := by decide +kernel
theorem dX12_isWithoutCycle_29 : decode cX12_isWithoutCycle 29 = .ok (.iconst 1, 1) := by decide +kernel
theorem dX12_isWithoutCycle_30 : decode cX12_isWithoutCycle 30 = .ok (.goto 4, 3) := by decide +kernel
theorem dX12_isWithoutCycle_33 : decode cX12_isWithoutCycle 33 = .ok (.iconst 0, 1) := by decide +kernel
theorem dX12_isWithoutCycle_34 : decode cX12_isWithoutCycle 34 = .ok (.iadd, 1) := by decide +kernel
theorem dX12_isWithoutCycle_35 : decode cX12_isWithoutCycle 35 = .ok (.istore_n 1, 1) := by decide +kernel
theorem dX12_isWithoutCycle_36 : decode cX12_isWithoutCycle 36 = .ok (.iinc 2 1, 3) := by decide +kernel
theorem dX12_isWithoutCycle_39 : decode cX12_isWithoutCycle 39 = .ok (.goto (-35), 3) := by decide +kernel
theorem dX12_isWithoutCycle_42 : decode cX12_isWithoutCycle 42 = .ok (.aload_n 0, 1) := by decide +kernel
theorem dX12_isWithoutCycle_43 : decode cX12_isWithoutCycle 43 = .ok (.invokevirtual 188, 3) := by decide +kernel
theorem dX12_isWithoutCycle_46 : decode cX12_isWithoutCycle 46 = .ok (.iload_n 1, 1) := by decide +kernel
theorem dX12_isWithoutCycle_47 : decode cX12_isWithoutCycle 47 = .ok (.iadd, 1) := by decide +kernel
theorem dX12_isWithoutCycle_48 : decode cX12_isWithoutCycle 48 = .ok (.aload_n 0, 1) := by decide +kernel
theorem dX12_isWithoutCycle_49 : decode cX12_isWithoutCycle 49 = .ok (.getfield 7, 3) := by decide +kernel
theorem dX12_isWithoutCycle_52 : decode cX12_isWithoutCycle 52 = .ok (.iconst 0, 1) := by decide +kernel
theorem dX12_isWithoutCycle_53 : decode cX12_isWithoutCycle 53 = .ok (.iaload, 1) := by decide +kernel
theorem dX12_isWithoutCycle_54 : decode cX12_isWithoutCycle 54 = .ok (.if_icmp .ne 7, 3) := by decide +kernel
theorem dX12_isWithoutCycle_57 : decode cX12_isWithoutCycle 57 = .ok (.iconst 1, 1) := by decide +kernel
theorem dX12_isWithoutCycle_58 : decode cX12_isWithoutCycle 58 = .ok (.goto 4, 3) := by decide +kernel
theorem dX12_isWithoutCycle_61 : decode cX12_isWithoutCycle 61 = .ok (.iconst 0, 1) := by decide +kernel
theorem dX12_isWithoutCycle_62 : decode cX12_isWithoutCycle 62 = .ok (.ireturn, 1) := by decide +kernel
theorem dX12_isForest_0 : decode cX12_isForest 0 = .ok (.aload_n 0, 1) := by decide +kernel
theorem dX12_isForest_1 : decode cX12_isForest 1 = .ok (.iconst 0, 1) := by decide +kernel
theorem dX12_isForest_2 : decode cX12_isForest 2 = .ok (.putfield 38, 3) := by decide +kernel
theorem dX12_isForest_5 : decode cX12_isForest 5 = .ok (.aload_n 0, 1) := by decide +kernel
theorem dX12_isForest_6 : decode cX12_isForest 6 = .ok (.invokevirtual 198, 3) := by decide +kernel
theorem dX12_isForest_9 : decode cX12_isForest 9 = .ok (.ireturn, 1) := by decide +kernel
theorem dX12_type_0 : decode cX12_type 0 = .ok (.iload_n 1, 1) := by decide +kernel
theorem dX12_type_1 : decode cX12_type 1 = .ok (.iconst 0, 1) := by decide +kernel
theorem dX12_type_2 : decode cX12_type 2 = .ok (.bipush 127, 2) := by decide +kernel
theorem dX12_type_4 : decode cX12_type 4 = .ok (.invokestatic 49, 3) := by decide +kernel
theorem dX12_type_7 : decode cX12_type 7 = .ok (.ifCond .ne 9, 3) := by decide +kernel
theorem dX12_type_10 : decode cX12_type 10 = .ok (.aload_n 0, 1) := by decide +kernel
theorem dX12_type_11 : decode cX12_type 11 = .ok (.iconst 1, 1) := by decide +kernel
theorem dX12_type_12 : decode cX12_type 12 = .ok (.invokevirtual 70, 3) := by decide +kernel
theorem dX12_type_15 : decode cX12_type 15 = .ok (.ireturn, 1) := by decide +kernel
theorem dX12_type_16 : decode cX12_type 16 = .ok (.aload_n 0, 1) := by decide +kernel
theorem dX12_type_17 : decode cX12_type 17 = .ok (.getfield 202, 3) := by decide +kernel
theorem dX12_type_20 : decode cX12_type 20 = .ok (.bipush 120, 2) := by decide +kernel
theorem dX12_type_22 : decode cX12_type 22 = .ok (.if_icmp .ne 9, 3) := by decide +kernel
theorem dX12_type_25 : decode cX12_type 25 = .ok (.aload_n 0, 1) := by decide +kernel
theorem dX12_type_26 : decode cX12_type 26 = .ok (.iconst 2, 1) := by decide +kernel
theorem dX12_type_27 : decode cX12_type 27 = .ok (.invokevirtual 70, 3) := by decide +kernel
theorem dX12_type_30 : decode cX12_type 30 = .ok (.ireturn, 1) := by decide +kernel
theorem dX12_type_31 : decode cX12_type 31 = .ok (.aload_n 0, 1) := by decide +kernel
theorem dX12_type_32 : decode cX12_type 32 = .ok (.getfield 19, 3) := by decide +kernel
theorem dX12_type_35 : decode cX12_type 35 = .ok (.aload_n 0, 1) := by decide +kernel
theorem dX12_type_36 : decode cX12_type 36 = .ok (.getfield 202, 3) := by decide +kernel
theorem dX12_type_39 : decode cX12_type 39 = .ok (.iload_n 1, 1) := by decide +kernel
theorem dX12_type_40 : decode cX12_type 40 = .ok (.iastore, 1) := by decide +kernel
theorem dX12_type_41 : decode cX12_type 41 = .ok (.aload_n 0, 1) := by decide +kernel
theorem dX12_type_42 : decode cX12_type 42 = .ok (.dup, 1) := by decide +kernel
theorem dX12_type_43 : decode cX12_type 43 = .ok (.getfield 202, 3) := by decide +kernel
theorem dX12_type_46 : decode cX12_type 46 = .ok (.iconst 1, 1) := by decide +kernel
theorem dX12_type_47 : decode cX12_type 47 = .ok (.iadd, 1) := by decide +kernel
theorem dX12_type_48 : decode cX12_type 48 = .ok (.putfield 202, 3) := by decide +kernel
theorem dX12_type_51 : decode cX12_type 51 = .ok (.aload_n 0, 1) := by decide +kernel
theorem dX12_type_52 : decode cX12_type 52 = .ok (.aload_n 0, 1) := by decide +kernel
theorem dX12_type_53 : decode cX12_type 53 = .ok (.getfield 202, 3) := by decide +kernel
theorem dX12_type_56 : decode cX12_type 56 = .ok (.invokevirtual 45, 3) := by decide +kernel
theorem dX12_type_59 : decode cX12_type 59 = .ok (.ireturn, 1) := by decide +kernel
theorem dX12_clearScript_0 : decode cX12_clearScript 0 = .ok (.aload_n 0, 1) := by decide +kernel
theorem dX12_clearScript_1 : decode cX12_clearScript 1 = .ok (.getfield 202, 3) := by decide +kernel
theorem dX12_clearScript_4 : decode cX12_clearScript 4 = .ok (.istore_n 1, 1) := by decide +kernel
theorem dX12_clearScript_5 : decode cX12_clearScript 5 = .ok (.aload_n 0, 1) := by decide +kernel
theorem dX12_clearScript_6 : decode cX12_clearScript 6 = .ok (.iconst 0, 1) := by decide +kernel
theorem dX12_clearScript_7 : decode cX12_clearScript 7 = .ok (.putfield 202, 3) := by decide +kernel
theorem dX12_clearScript_10 : decode cX12_clearScript 10 = .ok (.aload_n 0, 1) := by decide +kernel
theorem dX12_clearScript_11 : decode cX12_clearScript 11 = .ok (.iload_n 1, 1) := by decide +kernel
theorem dX12_clearScript_12 : decode cX12_clearScript 12 = .ok (.invokevirtual 45, 3) := by decide +kernel
theorem dX12_clearScript_15 : decode cX12_clearScript 15 = .ok (.ireturn, 1) := by decide +kernel
theorem dX12_isIn_0 : decode cX12_isIn 0 = .ok (.aload_n 0, 1) := by decide +kernel
theorem dX12_isIn_1 : decode cX12_isIn 1 = .ok (.getfield 205, 3) := by decide +kernel
theorem dX12_isIn_4 : decode cX12_isIn 4 = .ok (.aload_n 0, 1) := by decide +kernel
theorem dX12_isIn_5 : decode cX12_isIn 5 = .ok (.getfield 202, 3) := by decide +kernel
theorem dX12_isIn_8 : decode cX12_isIn 8 = .ok (.if_icmp .ge 24, 3) := by decide +kernel
theorem dX12_isIn_11 : decode cX12_isIn 11 = .ok (.aload_n 0, 1) := by decide +kernel
theorem dX12_isIn_12 : decode cX12_isIn 12 = .ok (.getfield 19, 3) := by decide +kernel
theorem dX12_isIn_15 : decode cX12_isIn 15 = .ok (.aload_n 0, 1) := by decide +kernel
theorem dX12_isIn_16 : decode cX12_isIn 16 = .ok (.getfield 205, 3) := by decide +kernel
theorem dX12_isIn_19 : decode cX12_isIn 19 = .ok (.iaload, 1) := by decide +kernel
theorem dX12_isIn_20 : decode cX12_isIn 20 = .ok (.iload_n 1, 1) := by decide +kernel
theorem dX12_isIn_21 : decode cX12_isIn 21 = .ok (.iload_n 2, 1) := by decide +kernel
theorem dX12_isIn_22 : decode cX12_isIn 22 = .ok (.invokestatic 49, 3) := by decide +kernel
theorem dX12_isIn_25 : decode cX12_isIn 25 = .ok (.ifCond .eq 7, 3) := by decide +kernel
theorem dX12_isIn_28 : decode cX12_isIn 28 = .ok (.iconst 1, 1) := by decide +kernel
theorem dX12_isIn_29 : decode cX12_isIn 29 = .ok (.goto 4, 3) := by decide +kernel
theorem dX12_isIn_32 : decode cX12_isIn 32 = .ok (.iconst 0, 1) := by decide +kernel
theorem dX12_isIn_33 : decode cX12_isIn 33 = .ok (.ireturn, 1) := by decide +kernel
theorem dX12_skips_0 : decode cX12_skips 0 = .ok (.aload_n 0, 1) := by decide +kernel
theorem dX12_skips_1 : decode cX12_skips 1 = .ok (.bipush 32, 2) := by decide +kernel
theorem dX12_skips_3 : decode cX12_skips 3 = .ok (.bipush 32, 2) := by decide +kernel
theorem dX12_skips_5 : decode cX12_skips 5 = .ok (.invokevirtual 208, 3) := by decide +kernel
theorem dX12_skips_8 : decode cX12_skips 8 = .ok (.ifCond .eq 16, 3) := by decide +kernel
theorem dX12_skips_11 : decode cX12_skips 11 = .ok (.aload_n 0, 1) := by decide +kernel
theorem dX12_skips_12 : decode cX12_skips 12 = .ok (.dup, 1) := by decide +kernel
theorem dX12_skips_13 : decode cX12_skips 13 = .ok (.getfield 205, 3) := by decide +kernel
theorem dX12_skips_16 : decode cX12_skips 16 = .ok (.iconst 1, 1) := by decide +kernel
theorem dX12_skips_17 : decode cX12_skips 17 = .ok (.iadd, 1) := by decide +kernel
theorem dX12_skips_18 : decode cX12_skips 18 = .ok (.putfield 205, 3) := by decide +kernel
theorem dX12_skips_21 : decode cX12_skips 21 = .ok (.goto (-21), 3) := by decide +kernel
theorem dX12_skips_24 : decode cX12_skips 24 = .ok (.return_, 1) := by decide +kernel
theorem dX12_wordOf_0 : decode cX12_wordOf 0 = .ok (.iload_n 1, 1) := by decide +kernel
theorem dX12_wordOf_1 : decode cX12_wordOf 1 = .ok (.iconst 3, 1) := by decide +kernel
theorem dX12_wordOf_2 : decode cX12_wordOf 2 = .ok (.if_icmp .ne 25, 3) := by decide +kernel
theorem dX12_wordOf_5 : decode cX12_wordOf 5 = .ok (.iload_n 0, 1) := by decide +kernel
theorem dX12_wordOf_6 : decode cX12_wordOf 6 = .ok (.ldc 211, 2) := by decide +kernel
theorem dX12_wordOf_8 : decode cX12_wordOf 8 = .ok (.if_icmp .ne 7, 3) := by decide +kernel
theorem dX12_wordOf_11 : decode cX12_wordOf 11 = .ok (.iconst 2, 1) := by decide +kernel
theorem dX12_wordOf_12 : decode cX12_wordOf 12 = .ok (.goto 14, 3) := by decide +kernel
theorem dX12_wordOf_15 : decode cX12_wordOf 15 = .ok (.iload_n 0, 1) := by decide +kernel
theorem dX12_wordOf_16 : decode cX12_wordOf 16 = .ok (.ldc 212, 2) := by decide +kernel
theorem dX12_wordOf_18 : decode cX12_wordOf 18 = .ok (.if_icmp .ne 7, 3) := by decide +kernel
theorem dX12_wordOf_21 : decode cX12_wordOf 21 = .ok (.iconst 4, 1) := by decide +kernel
theorem dX12_wordOf_22 : decode cX12_wordOf 22 = .ok (.goto 4, 3) := by decide +kernel
theorem dX12_wordOf_25 : decode cX12_wordOf 25 = .ok (.iconst 0, 1) := by decide +kernel
theorem dX12_wordOf_26 : decode cX12_wordOf 26 = .ok (.ireturn, 1) := by decide +kernel
theorem dX12_wordOf_27 : decode cX12_wordOf 27 = .ok (.iload_n 1, 1) := by decide +kernel
theorem dX12_wordOf_28 : decode cX12_wordOf 28 = .ok (.iconst 4, 1) := by decide +kernel
theorem dX12_wordOf_29 : decode cX12_wordOf 29 = .ok (.if_icmp .eq 5, 3) := by decide +kernel
theorem dX12_wordOf_32 : decode cX12_wordOf 32 = .ok (.iconst 0, 1) := by decide +kernel
theorem dX12_wordOf_33 : decode cX12_wordOf 33 = .ok (.ireturn, 1) := by decide +kernel
theorem dX12_wordOf_34 : decode cX12_wordOf 34 = .ok (.iload_n 0, 1) := by decide +kernel
theorem dX12_wordOf_35 : decode cX12_wordOf 35 = .ok (.ldc 213, 2) := by decide +kernel
theorem dX12_wordOf_37 : decode cX12_wordOf 37 = .ok (.if_icmp .ne 7, 3) := by decide +kernel
theorem dX12_wordOf_40 : decode cX12_wordOf 40 = .ok (.iconst 1, 1) := by decide +kernel
theorem dX12_wordOf_41 : decode cX12_wordOf 41 = .ok (.goto 46, 3) := by decide +kernel
theorem dX12_wordOf_44 : decode cX12_wordOf 44 = .ok (.iload_n 0, 1) := by decide +kernel
theorem dX12_wordOf_45 : decode cX12_wordOf 45 = .ok (.ldc 214, 2) := by decide +kernel
theorem dX12_wordOf_47 : decode cX12_wordOf 47 = .ok (.if_icmp .ne 7, 3) := by decide +kernel
theorem dX12_wordOf_50 : decode cX12_wordOf 50 = .ok (.iconst 3, 1) := by decide +kernel
theorem dX12_wordOf_51 : decode cX12_wordOf 51 = .ok (.goto 36, 3) := by decide +kernel
theorem dX12_wordOf_54 : decode cX12_wordOf 54 = .ok (.iload_n 0, 1) := by decide +kernel
theorem dX12_wordOf_55 : decode cX12_wordOf 55 = .ok (.ldc 215, 2) := by decide +kernel
theorem dX12_wordOf_57 : decode cX12_wordOf 57 = .ok (.if_icmp .ne 7, 3) := by decide +kernel
theorem dX12_wordOf_60 : decode cX12_wordOf 60 = .ok (.iconst 5, 1) := by decide +kernel
theorem dX12_wordOf_61 : decode cX12_wordOf 61 = .ok (.goto 26, 3) := by decide +kernel
theorem dX12_wordOf_64 : decode cX12_wordOf 64 = .ok (.iload_n 0, 1) := by decide +kernel
theorem dX12_wordOf_65 : decode cX12_wordOf 65 = .ok (.ldc 216, 2) := by decide +kernel
theorem dX12_wordOf_67 : decode cX12_wordOf 67 = .ok (.if_icmp .ne 8, 3) := by decide +kernel
theorem dX12_wordOf_70 : decode cX12_wordOf 70 = .ok (.bipush 6, 2) := by decide +kernel
theorem dX12_wordOf_72 : decode cX12_wordOf 72 = .ok (.goto 15, 3) := by decide +kernel
theorem dX12_wordOf_75 : decode cX12_wordOf 75 = .ok (.iload_n 0, 1) := by decide +kernel
theorem dX12_wordOf_76 : decode cX12_wordOf 76 = .ok (.ldc 217, 2) := by decide +kernel
theorem dX12_wordOf_78 : decode cX12_wordOf 78 = .ok (.if_icmp .ne 8, 3) := by decide +kernel
theorem dX12_wordOf_81 : decode cX12_wordOf 81 = .ok (.bipush 7, 2) := by decide +kernel
theorem dX12_wordOf_83 : decode cX12_wordOf 83 = .ok (.goto 4, 3) := by decide +kernel
theorem dX12_wordOf_86 : decode cX12_wordOf 86 = .ok (.iconst 0, 1) := by decide +kernel
theorem dX12_wordOf_87 : decode cX12_wordOf 87 = .ok (.ireturn, 1) := by decide +kernel
theorem dX12_numbersOf_0 : decode cX12_numbersOf 0 = .ok (.iload_n 0, 1) := by decide +kernel
theorem dX12_numbersOf_1 : decode cX12_numbersOf 1 = .ok (.iconst 3, 1) := by decide +kernel
theorem dX12_numbersOf_2 : decode cX12_numbersOf 2 = .ok (.if_icmp .ge 7, 3) := by decide +kernel
theorem dX12_numbersOf_5 : decode cX12_numbersOf 5 = .ok (.iconst 3, 1) := by decide +kernel
theorem dX12_numbersOf_6 : decode cX12_numbersOf 6 = .ok (.goto 19, 3) := by decide +kernel
theorem dX12_numbersOf_9 : decode cX12_numbersOf 9 = .ok (.iload_n 0, 1) := by decide +kernel
theorem dX12_numbersOf_10 : decode cX12_numbersOf 10 = .ok (.iconst 5, 1) := by decide +kernel
theorem dX12_numbersOf_11 : decode cX12_numbersOf 11 = .ok (.if_icmp .eq 9, 3) := by decide +kernel
theorem dX12_numbersOf_14 : decode cX12_numbersOf 14 = .ok (.iload_n 0, 1) := by decide +kernel
theorem dX12_numbersOf_15 : decode cX12_numbersOf 15 = .ok (.bipush 6, 2) := by decide +kernel
theorem dX12_numbersOf_17 : decode cX12_numbersOf 17 = .ok (.if_icmp .ne 7, 3) := by decide +kernel
theorem dX12_numbersOf_20 : decode cX12_numbersOf 20 = .ok (.iconst 2, 1) := by decide +kernel
theorem dX12_numbersOf_21 : decode cX12_numbersOf 21 = .ok (.goto 4, 3) := by decide +kernel
theorem dX12_numbersOf_24 : decode cX12_numbersOf 24 = .ok (.iconst 1, 1) := by decide +kernel
theorem dX12_numbersOf_25 : decode cX12_numbersOf 25 = .ok (.ireturn, 1) := by decide +kernel
theorem dX12_isNumber_0 : decode cX12_isNumber 0 = .ok (.aload_n 0, 1) := by decide +kernel
theorem dX12_isNumber_1 : decode cX12_isNumber 1 = .ok (.getfield 205, 3) := by decide +kernel
theorem dX12_isNumber_4 : decode cX12_isNumber 4 = .ok (.istore_n 2, 1) := by decide +kernel
theorem dX12_isNumber_5 : decode cX12_isNumber 5 = .ok (.iconst 0, 1) := by decide +kernel
theorem dX12_isNumber_6 : decode cX12_isNumber 6 = .ok (.istore_n 3, 1) := by decide +kernel
theorem dX12_isNumber_7 : decode cX12_isNumber 7 = .ok (.aload_n 0, 1) := by decide +kernel
theorem dX12_isNumber_8 : decode cX12_isNumber 8 = .ok (.bipush 48, 2) := by decide +kernel
theorem dX12_isNumber_10 : decode cX12_isNumber 10 = .ok (.bipush 57, 2) := by decide +kernel
theorem dX12_isNumber_12 : decode cX12_isNumber 12 = .ok (.invokevirtual 208, 3) := by decide +kernel
theorem dX12_isNumber_15 : decode cX12_isNumber 15 = .ok (.ifCond .eq 44, 3) := by decide +kernel
theorem dX12_isNumber_18 : decode cX12_isNumber 18 = .ok (.aload_n 0, 1) := by decide +kernel
theorem dX12_isNumber_19 : decode cX12_isNumber 19 = .ok (.getfield 205, 3) := by decide +kernel
theorem dX12_isNumber_22 : decode cX12_isNumber 22 = .ok (.iload_n 2, 1) := by decide +kernel
theorem dX12_isNumber_23 : decode cX12_isNumber 23 = .ok (.isub, 1) := by decide +kernel
theorem dX12_isNumber_24 : decode cX12_isNumber 24 = .ok (.iconst 4, 1) := by decide +kernel
theorem dX12_isNumber_25 : decode cX12_isNumber 25 = .ok (.if_icmp .ge 34, 3) := by decide +kernel
theorem dX12_isNumber_28 : decode cX12_isNumber 28 = .ok (.bipush 10, 2) := by decide +kernel
theorem dX12_isNumber_30 : decode cX12_isNumber 30 = .ok (.iload_n 3, 1) := by decide +kernel
theorem dX12_isNumber_31 : decode cX12_isNumber 31 = .ok (.imul, 1) := by decide +kernel
theorem dX12_isNumber_32 : decode cX12_isNumber 32 = .ok (.aload_n 0, 1) := by decide +kernel
theorem dX12_isNumber_33 : decode cX12_isNumber 33 = .ok (.getfield 19, 3) := by decide +kernel
theorem dX12_isNumber_36 : decode cX12_isNumber 36 = .ok (.aload_n 0, 1) := by decide +kernel
theorem dX12_isNumber_37 : decode cX12_isNumber 37 = .ok (.getfield 205, 3) := by decide +kernel
theorem dX12_isNumber_40 : decode cX12_isNumber 40 = .ok (.iaload, 1) := by decide +kernel
theorem dX12_isNumber_41 : decode cX12_isNumber 41 = .ok (.iadd, 1) := by decide +kernel
theorem dX12_isNumber_42 : decode cX12_isNumber 42 = .ok (.bipush 48, 2) := by decide +kernel
theorem dX12_isNumber_44 : decode cX12_isNumber 44 = .ok (.isub, 1) := by decide +kernel
theorem dX12_isNumber_45 : decode cX12_isNumber 45 = .ok (.istore_n 3, 1) := by decide +kernel
theorem dX12_isNumber_46 : decode cX12_isNumber 46 = .ok (.aload_n 0, 1) := by decide +kernel
theorem dX12_isNumber_47 : decode cX12_isNumber 47 = .ok (.dup, 1) := by decide +kernel
theorem dX12_isNumber_48 : decode cX12_isNumber 48 = .ok (.getfield 205, 3) := by decide +kernel
theorem dX12_isNumber_51 : decode cX12_isNumber 51 = .ok (.iconst 1, 1) := by decide +kernel
theorem dX12_isNumber_52 : decode cX12_isNumber 52 = .ok (.iadd, 1) := by decide +kernel
theorem dX12_isNumber_53 : decode cX12_isNumber 53 = .ok (.putfield 205, 3) := by decide +kernel
theorem dX12_isNumber_56 : decode cX12_isNumber 56 = .ok (.goto (-49), 3) := by decide +kernel
theorem dX12_isNumber_59 : decode cX12_isNumber 59 = .ok (.aload_n 0, 1) := by decide +kernel
theorem dX12_isNumber_60 : decode cX12_isNumber 60 = .ok (.getfield 31, 3) := by decide +kernel
theorem dX12_isNumber_63 : decode cX12_isNumber 63 = .ok (.iload_n 1, 1) := by decide +kernel
theorem dX12_isNumber_64 : decode cX12_isNumber 64 = .ok (.iload_n 3, 1) := by decide +kernel
theorem dX12_isNumber_65 : decode cX12_isNumber 65 = .ok (.iastore, 1) := by decide +kernel
theorem dX12_isNumber_66 : decode cX12_isNumber 66 = .ok (.aload_n 0, 1) := by decide +kernel
theorem dX12_isNumber_67 : decode cX12_isNumber 67 = .ok (.getfield 205, 3) := by decide +kernel
theorem dX12_isNumber_70 : decode cX12_isNumber 70 = .ok (.iload_n 2, 1) := by decide +kernel
theorem dX12_isNumber_71 : decode cX12_isNumber 71 = .ok (.if_icmp .le 7, 3) := by decide +kernel
theorem dX12_isNumber_74 : decode cX12_isNumber 74 = .ok (.iconst 1, 1) := by decide +kernel
theorem dX12_isNumber_75 : decode cX12_isNumber 75 = .ok (.goto 4, 3) := by decide +kernel
theorem dX12_isNumber_78 : decode cX12_isNumber 78 = .ok (.iconst 0, 1) := by decide +kernel
theorem dX12_isNumber_79 : decode cX12_isNumber 79 = .ok (.ireturn, 1) := by decide +kernel
theorem dX12_isCommand_0 : decode cX12_isCommand 0 = .ok (.aload_n 0, 1) := by decide +kernel
theorem dX12_isCommand_1 : decode cX12_isCommand 1 = .ok (.getfield 205, 3) := by decide +kernel
theorem dX12_isCommand_4 : decode cX12_isCommand 4 = .ok (.istore_n 1, 1) := by decide +kernel
theorem dX12_isCommand_5 : decode cX12_isCommand 5 = .ok (.iconst 0, 1) := by decide +kernel
theorem dX12_isCommand_6 : decode cX12_isCommand 6 = .ok (.istore_n 2, 1) := by decide +kernel
theorem dX12_isCommand_7 : decode cX12_isCommand 7 = .ok (.aload_n 0, 1) := by decide +kernel
theorem dX12_isCommand_8 : decode cX12_isCommand 8 = .ok (.bipush 97, 2) := by decide +kernel
theorem dX12_isCommand_10 : decode cX12_isCommand 10 = .ok (.bipush 122, 2) := by decide +kernel
theorem dX12_isCommand_12 : decode cX12_isCommand 12 = .ok (.invokevirtual 208, 3) := by decide +kernel
theorem dX12_isCommand_15 : decode cX12_isCommand 15 = .ok (.ifCond .eq 31, 3) := by decide +kernel
theorem dX12_isCommand_18 : decode cX12_isCommand 18 = .ok (.iload_n 2, 1) := by decide +kernel
theorem dX12_isCommand_19 : decode cX12_isCommand 19 = .ok (.bipush 8, 2) := by decide +kernel
theorem dX12_isCommand_21 : decode cX12_isCommand 21 = .ok (.ishl, 1) := by decide +kernel
theorem dX12_isCommand_22 : decode cX12_isCommand 22 = .ok (.aload_n 0, 1) := by decide +kernel
theorem dX12_isCommand_23 : decode cX12_isCommand 23 = .ok (.getfield 19, 3) := by decide +kernel
theorem dX12_isCommand_26 : decode cX12_isCommand 26 = .ok (.aload_n 0, 1) := by decide +kernel
theorem dX12_isCommand_27 : decode cX12_isCommand 27 = .ok (.getfield 205, 3) := by decide +kernel
theorem dX12_isCommand_30 : decode cX12_isCommand 30 = .ok (.iaload, 1) := by decide +kernel
theorem dX12_isCommand_31 : decode cX12_isCommand 31 = .ok (.ior, 1) := by decide +kernel
theorem dX12_isCommand_32 : decode cX12_isCommand 32 = .ok (.istore_n 2, 1) := by decide +kernel
theorem dX12_isCommand_33 : decode cX12_isCommand 33 = .ok (.aload_n 0, 1) := by decide +kernel
theorem dX12_isCommand_34 : decode cX12_isCommand 34 = .ok (.dup, 1) := by decide +kernel
theorem dX12_isCommand_35 : decode cX12_isCommand 35 = .ok (.getfield 205, 3) := by decide +kernel
theorem dX12_isCommand_38 : decode cX12_isCommand 38 = .ok (.iconst 1, 1) := by decide +kernel
theorem dX12_isCommand_39 : decode cX12_isCommand 39 = .ok (.iadd, 1) := by decide +kernel
theorem dX12_isCommand_40 : decode cX12_isCommand 40 = .ok (.putfield 205, 3) := by decide +kernel
theorem dX12_isCommand_43 : decode cX12_isCommand 43 = .ok (.goto (-36), 3) := by decide +kernel
theorem dX12_isCommand_46 : decode cX12_isCommand 46 = .ok (.aload_n 0, 1) := by decide +kernel
theorem dX12_isCommand_47 : decode cX12_isCommand 47 = .ok (.iload_n 2, 1) := by decide +kernel
theorem dX12_isCommand_48 : decode cX12_isCommand 48 = .ok (.aload_n 0, 1) := by decide +kernel
theorem dX12_isCommand_49 : decode cX12_isCommand 49 = .ok (.getfield 205, 3) := by decide +kernel
theorem dX12_isCommand_52 : decode cX12_isCommand 52 = .ok (.iload_n 1, 1) := by decide +kernel
theorem dX12_isCommand_53 : decode cX12_isCommand 53 = .ok (.isub, 1) := by decide +kernel
theorem dX12_isCommand_54 : decode cX12_isCommand 54 = .ok (.invokestatic 218, 3) := by decide +kernel
theorem dX12_isCommand_57 : decode cX12_isCommand 57 = .ok (.putfield 221, 3) := by decide +kernel
theorem dX12_isCommand_60 : decode cX12_isCommand 60 = .ok (.aload_n 0, 1) := by decide +kernel
theorem dX12_isCommand_61 : decode cX12_isCommand 61 = .ok (.getfield 221, 3) := by decide +kernel
theorem dX12_isCommand_64 : decode cX12_isCommand 64 = .ok (.ifCond .ne 10, 3) := by decide +kernel
theorem dX12_isCommand_67 : decode cX12_isCommand 67 = .ok (.aload_n 0, 1) := by decide +kernel
theorem dX12_isCommand_68 : decode cX12_isCommand 68 = .ok (.iload_n 1, 1) := by decide +kernel
theorem dX12_isCommand_69 : decode cX12_isCommand 69 = .ok (.putfield 205, 3) := by decide +kernel
theorem dX12_isCommand_72 : decode cX12_isCommand 72 = .ok (.iconst 0, 1) := by decide +kernel
theorem dX12_isCommand_73 : decode cX12_isCommand 73 = .ok (.ireturn, 1) := by decide +kernel
theorem dX12_isCommand_74 : decode cX12_isCommand 74 = .ok (.iconst 0, 1) := by decide +kernel
theorem dX12_isCommand_75 : decode cX12_isCommand 75 = .ok (.istore_n 3, 1) := by decide +kernel
theorem dX12_isCommand_76 : decode cX12_isCommand 76 = .ok (.iload_n 3, 1) := by decide +kernel
theorem dX12_isCommand_77 : decode cX12_isCommand 77 = .ok (.aload_n 0, 1) := by decide +kernel
theorem dX12_isCommand_78 : decode cX12_isCommand 78 = .ok (.getfield 221, 3) := by decide +kernel
theorem dX12_isCommand_81 : decode cX12_isCommand 81 = .ok (.invokestatic 224, 3) := by decide +kernel
theorem dX12_isCommand_84 : decode cX12_isCommand 84 = .ok (.if_icmp .ge 38, 3) := by decide +kernel
theorem dX12_isCommand_87 : decode cX12_isCommand 87 = .ok (.aload_n 0, 1) := by decide +kernel
theorem dX12_isCommand_88 : decode cX12_isCommand 88 = .ok (.getfield 205, 3) := by decide +kernel
theorem dX12_isCommand_91 : decode cX12_isCommand 91 = .ok (.istore 4, 2) := by decide +kernel
theorem dX12_isCommand_93 : decode cX12_isCommand 93 = .ok (.aload_n 0, 1) := by decide +kernel
theorem dX12_isCommand_94 : decode cX12_isCommand 94 = .ok (.invokevirtual 227, 3) := by decide +kernel
theorem dX12_isCommand_97 : decode cX12_isCommand 97 = .ok (.aload_n 0, 1) := by decide +kernel
theorem dX12_isCommand_98 : decode cX12_isCommand 98 = .ok (.getfield 205, 3) := by decide +kernel
theorem dX12_isCommand_101 : decode cX12_isCommand 101 = .ok (.iload 4, 2) := by decide +kernel
theorem dX12_isCommand_103 : decode cX12_isCommand 103 = .ok (.if_icmp .eq 11, 3) := by decide +kernel
theorem dX12_isCommand_106 : decode cX12_isCommand 106 = .ok (.aload_n 0, 1) := by decide +kernel
theorem dX12_isCommand_107 : decode cX12_isCommand 107 = .ok (.iload_n 3, 1) := by decide +kernel
theorem dX12_isCommand_108 : decode cX12_isCommand 108 = .ok (.invokevirtual 230, 3) := by decide +kernel
theorem dX12_isCommand_111 : decode cX12_isCommand 111 = .ok (.ifCond .ne 5, 3) := by decide +kernel
theorem dX12_isCommand_114 : decode cX12_isCommand 114 = .ok (.iconst 0, 1) := by decide +kernel
theorem dX12_isCommand_115 : decode cX12_isCommand 115 = .ok (.ireturn, 1) := by decide +kernel
theorem dX12_isCommand_116 : decode cX12_isCommand 116 = .ok (.iinc 3 1, 3) := by decide +kernel
theorem dX12_isCommand_119 : decode cX12_isCommand 119 = .ok (.goto (-43), 3) := by decide +kernel
theorem dX12_isCommand_122 : decode cX12_isCommand 122 = .ok (.aload_n 0, 1) := by decide +kernel
theorem dX12_isCommand_123 : decode cX12_isCommand 123 = .ok (.invokevirtual 227, 3) := by decide +kernel
theorem dX12_isCommand_126 : decode cX12_isCommand 126 = .ok (.aload_n 0, 1) := by decide +kernel
theorem dX12_isCommand_127 : decode cX12_isCommand 127 = .ok (.bipush 59, 2) := by decide +kernel
theorem dX12_isCommand_129 : decode cX12_isCommand 129 = .ok (.bipush 59, 2) := by decide +kernel
theorem dX12_isCommand_131 : decode cX12_isCommand 131 = .ok (.invokevirtual 208, 3) := by decide +kernel
theorem dX12_isCommand_134 : decode cX12_isCommand 134 = .ok (.ifCond .ne 5, 3) := by decide +kernel
theorem dX12_isCommand_137 : decode cX12_isCommand 137 = .ok (.iconst 0, 1) := by decide +kernel
theorem dX12_isCommand_138 : decode cX12_isCommand 138 = .ok (.ireturn, 1) := by decide +kernel
theorem dX12_isCommand_139 : decode cX12_isCommand 139 = .ok (.aload_n 0, 1) := by decide +kernel
theorem dX12_isCommand_140 : decode cX12_isCommand 140 = .ok (.dup, 1) := by decide +kernel
theorem dX12_isCommand_141 : decode cX12_isCommand 141 = .ok (.getfield 205, 3) := by decide +kernel
theorem dX12_isCommand_144 : decode cX12_isCommand 144 = .ok (.iconst 1, 1) := by decide +kernel
theorem dX12_isCommand_145 : decode cX12_isCommand 145 = .ok (.iadd, 1) := by decide +kernel
theorem dX12_isCommand_146 : decode cX12_isCommand 146 = .ok (.putfield 205, 3) := by decide +kernel
theorem dX12_isCommand_149 : decode cX12_isCommand 149 = .ok (.iconst 1, 1) := by decide +kernel
theorem dX12_isCommand_150 : decode cX12_isCommand 150 = .ok (.ireturn, 1) := by decide +kernel
theorem dX12_does_0 : decode cX12_does 0 = .ok (.aload_n 0, 1) := by decide +kernel
theorem dX12_does_1 : decode cX12_does 1 = .ok (.getfield 221, 3) := by decide +kernel
theorem dX12_does_4 : decode cX12_does 4 = .ok (.tableswitch 142 1 6 #[40, 63, 86, 97, 108, 125], 40) := by decide +kernel
theorem dX12_does_44 : decode cX12_does 44 = .ok (.aload_n 0, 1) := by decide +kernel
theorem dX12_does_45 : decode cX12_does 45 = .ok (.aload_n 0, 1) := by decide +kernel
theorem dX12_does_46 : decode cX12_does 46 = .ok (.getfield 31, 3) := by decide +kernel
theorem dX12_does_49 : decode cX12_does 49 = .ok (.iconst 0, 1) := by decide +kernel
theorem dX12_does_50 : decode cX12_does 50 = .ok (.iaload, 1) := by decide +kernel
theorem dX12_does_51 : decode cX12_does 51 = .ok (.aload_n 0, 1) := by decide +kernel
theorem dX12_does_52 : decode cX12_does 52 = .ok (.getfield 31, 3) := by decide +kernel
theorem dX12_does_55 : decode cX12_does 55 = .ok (.iconst 1, 1) := by decide +kernel
theorem dX12_does_56 : decode cX12_does 56 = .ok (.iaload, 1) := by decide +kernel
theorem dX12_does_57 : decode cX12_does 57 = .ok (.aload_n 0, 1) := by decide +kernel
theorem dX12_does_58 : decode cX12_does 58 = .ok (.getfield 31, 3) := by decide +kernel
theorem dX12_does_61 : decode cX12_does 61 = .ok (.iconst 2, 1) := by decide +kernel
theorem dX12_does_62 : decode cX12_does 62 = .ok (.iaload, 1) := by decide +kernel
theorem dX12_does_63 : decode cX12_does 63 = .ok (.invokevirtual 107, 3) := by decide +kernel
theorem dX12_does_66 : decode cX12_does 66 = .ok (.ireturn, 1) := by decide +kernel
theorem dX12_does_67 : decode cX12_does 67 = .ok (.aload_n 0, 1) := by decide +kernel
theorem dX12_does_68 : decode cX12_does 68 = .ok (.aload_n 0, 1) := by decide +kernel
theorem dX12_does_69 : decode cX12_does 69 = .ok (.getfield 31, 3) := by decide +kernel
theorem dX12_does_72 : decode cX12_does 72 = .ok (.iconst 0, 1) := by decide +kernel
theorem dX12_does_73 : decode cX12_does 73 = .ok (.iaload, 1) := by decide +kernel
theorem dX12_does_74 : decode cX12_does 74 = .ok (.aload_n 0, 1) := by decide +kernel
theorem dX12_does_75 : decode cX12_does 75 = .ok (.getfield 31, 3) := by decide +kernel
theorem dX12_does_78 : decode cX12_does 78 = .ok (.iconst 1, 1) := by decide +kernel
theorem dX12_does_79 : decode cX12_does 79 = .ok (.iaload, 1) := by decide +kernel
theorem dX12_does_80 : decode cX12_does 80 = .ok (.aload_n 0, 1) := by decide +kernel
theorem dX12_does_81 : decode cX12_does 81 = .ok (.getfield 31, 3) := by decide +kernel
theorem dX12_does_84 : decode cX12_does 84 = .ok (.iconst 2, 1) := by decide +kernel
theorem dX12_does_85 : decode cX12_does 85 = .ok (.iaload, 1) := by decide +kernel
theorem dX12_does_86 : decode cX12_does 86 = .ok (.invokevirtual 120, 3) := by decide +kernel
theorem dX12_does_89 : decode cX12_does 89 = .ok (.ireturn, 1) := by decide +kernel
theorem dX12_does_90 : decode cX12_does 90 = .ok (.aload_n 0, 1) := by decide +kernel
theorem dX12_does_91 : decode cX12_does 91 = .ok (.aload_n 0, 1) := by decide +kernel
theorem dX12_does_92 : decode cX12_does 92 = .ok (.getfield 31, 3) := by decide +kernel
theorem dX12_does_95 : decode cX12_does 95 = .ok (.iconst 0, 1) := by decide +kernel
theorem dX12_does_96 : decode cX12_does 96 = .ok (.iaload, 1) := by decide +kernel
theorem dX12_does_97 : decode cX12_does 97 = .ok (.invokevirtual 111, 3) := by decide +kernel
theorem dX12_does_100 : decode cX12_does 100 = .ok (.ireturn, 1) := by decide +kernel
theorem dX12_does_101 : decode cX12_does 101 = .ok (.aload_n 0, 1) := by decide +kernel
theorem dX12_does_102 : decode cX12_does 102 = .ok (.aload_n 0, 1) := by decide +kernel
theorem dX12_does_103 : decode cX12_does 103 = .ok (.getfield 31, 3) := by decide +kernel
theorem dX12_does_106 : decode cX12_does 106 = .ok (.iconst 0, 1) := by decide +kernel
theorem dX12_does_107 : decode cX12_does 107 = .ok (.iaload, 1) := by decide +kernel
theorem dX12_does_108 : decode cX12_does 108 = .ok (.invokevirtual 114, 3) := by decide +kernel
theorem dX12_does_111 : decode cX12_does 111 = .ok (.ireturn, 1) := by decide +kernel
theorem dX12_does_112 : decode cX12_does 112 = .ok (.aload_n 0, 1) := by decide +kernel
theorem dX12_does_113 : decode cX12_does 113 = .ok (.aload_n 0, 1) := by decide +kernel
theorem dX12_does_114 : decode cX12_does 114 = .ok (.getfield 31, 3) := by decide +kernel
theorem dX12_does_117 : decode cX12_does 117 = .ok (.iconst 0, 1) := by decide +kernel
theorem dX12_does_118 : decode cX12_does 118 = .ok (.iaload, 1) := by decide +kernel
theorem dX12_does_119 : decode cX12_does 119 = .ok (.aload_n 0, 1) := by decide +kernel
theorem dX12_does_120 : decode cX12_does 120 = .ok (.getfield 31, 3) := by decide +kernel
theorem dX12_does_123 : decode cX12_does 123 = .ok (.iconst 1, 1) := by decide +kernel
theorem dX12_does_124 : decode cX12_does 124 = .ok (.iaload, 1) := by decide +kernel
theorem dX12_does_125 : decode cX12_does 125 = .ok (.invokevirtual 101, 3) := by decide +kernel
theorem dX12_does_128 : decode cX12_does 128 = .ok (.ireturn, 1) := by decide +kernel
theorem dX12_does_129 : decode cX12_does 129 = .ok (.aload_n 0, 1) := by decide +kernel
theorem dX12_does_130 : decode cX12_does 130 = .ok (.aload_n 0, 1) := by decide +kernel
theorem dX12_does_131 : decode cX12_does 131 = .ok (.getfield 31, 3) := by decide +kernel
theorem dX12_does_134 : decode cX12_does 134 = .ok (.iconst 0, 1) := by decide +kernel
theorem dX12_does_135 : decode cX12_does 135 = .ok (.iaload, 1) := by decide +kernel
theorem dX12_does_136 : decode cX12_does 136 = .ok (.aload_n 0, 1) := by decide +kernel
theorem dX12_does_137 : decode cX12_does 137 = .ok (.getfield 31, 3) := by decide +kernel
theorem dX12_does_140 : decode cX12_does 140 = .ok (.iconst 1, 1) := by decide +kernel
theorem dX12_does_141 : decode cX12_does 141 = .ok (.iaload, 1) := by decide +kernel
theorem dX12_does_142 : decode cX12_does 142 = .ok (.invokevirtual 117, 3) := by decide +kernel
theorem dX12_does_145 : decode cX12_does 145 = .ok (.ireturn, 1) := by decide +kernel
theorem dX12_does_146 : decode cX12_does 146 = .ok (.aload_n 0, 1) := by decide +kernel
theorem dX12_does_147 : decode cX12_does 147 = .ok (.aload_n 0, 1) := by decide +kernel
theorem dX12_does_148 : decode cX12_does 148 = .ok (.getfield 31, 3) := by decide +kernel
theorem dX12_does_151 : decode cX12_does 151 = .ok (.iconst 0, 1) := by decide +kernel
theorem dX12_does_152 : decode cX12_does 152 = .ok (.iaload, 1) := by decide +kernel
theorem dX12_does_153 : decode cX12_does 153 = .ok (.invokevirtual 124, 3) := by decide +kernel
theorem dX12_does_156 : decode cX12_does 156 = .ok (.ireturn, 1) := by decide +kernel
theorem dX12_run_0 : decode cX12_run 0 = .ok (.aload_n 0, 1) := by decide +kernel
theorem dX12_run_1 : decode cX12_run 1 = .ok (.iconst 0, 1) := by decide +kernel
theorem dX12_run_2 : decode cX12_run 2 = .ok (.putfield 38, 3) := by decide +kernel
theorem dX12_run_5 : decode cX12_run 5 = .ok (.aload_n 0, 1) := by decide +kernel
theorem dX12_run_6 : decode cX12_run 6 = .ok (.iconst 0, 1) := by decide +kernel
theorem dX12_run_7 : decode cX12_run 7 = .ok (.putfield 205, 3) := by decide +kernel
theorem dX12_run_10 : decode cX12_run 10 = .ok (.aload_n 0, 1) := by decide +kernel
theorem dX12_run_11 : decode cX12_run 11 = .ok (.invokevirtual 227, 3) := by decide +kernel
theorem dX12_run_14 : decode cX12_run 14 = .ok (.aload_n 0, 1) := by decide +kernel
theorem dX12_run_15 : decode cX12_run 15 = .ok (.getfield 205, 3) := by decide +kernel
theorem dX12_run_18 : decode cX12_run 18 = .ok (.aload_n 0, 1) := by decide +kernel
theorem dX12_run_19 : decode cX12_run 19 = .ok (.getfield 202, 3) := by decide +kernel
theorem dX12_run_22 : decode cX12_run 22 = .ok (.if_icmp .ge 25, 3) := by decide +kernel
theorem dX12_run_25 : decode cX12_run 25 = .ok (.aload_n 0, 1) := by decide +kernel
theorem dX12_run_26 : decode cX12_run 26 = .ok (.invokevirtual 233, 3) := by decide +kernel
theorem dX12_run_29 : decode cX12_run 29 = .ok (.ifCond .ne 11, 3) := by decide +kernel
theorem dX12_run_32 : decode cX12_run 32 = .ok (.bipush (-10), 2) := by decide +kernel
theorem dX12_run_34 : decode cX12_run 34 = .ok (.aload_n 0, 1) := by decide +kernel
theorem dX12_run_35 : decode cX12_run 35 = .ok (.getfield 205, 3) := by decide +kernel
theorem dX12_run_38 : decode cX12_run 38 = .ok (.isub, 1) := by decide +kernel
theorem dX12_run_39 : decode cX12_run 39 = .ok (.ireturn, 1) := by decide +kernel
theorem dX12_run_40 : decode cX12_run 40 = .ok (.aload_n 0, 1) := by decide +kernel
theorem dX12_run_41 : decode cX12_run 41 = .ok (.invokevirtual 227, 3) := by decide +kernel
theorem dX12_run_44 : decode cX12_run 44 = .ok (.goto (-30), 3) := by decide +kernel
theorem dX12_run_47 : decode cX12_run 47 = .ok (.aload_n 0, 1) := by decide +kernel
theorem dX12_run_48 : decode cX12_run 48 = .ok (.invokevirtual 73, 3) := by decide +kernel
theorem dX12_run_51 : decode cX12_run 51 = .ok (.iconst 0, 1) := by decide +kernel
theorem dX12_run_52 : decode cX12_run 52 = .ok (.istore_n 1, 1) := by decide +kernel
theorem dX12_run_53 : decode cX12_run 53 = .ok (.iconst 1, 1) := by decide +kernel
theorem dX12_run_54 : decode cX12_run 54 = .ok (.istore_n 2, 1) := by decide +kernel
theorem dX12_run_55 : decode cX12_run 55 = .ok (.aload_n 0, 1) := by decide +kernel
theorem dX12_run_56 : decode cX12_run 56 = .ok (.iconst 0, 1) := by decide +kernel
theorem dX12_run_57 : decode cX12_run 57 = .ok (.putfield 205, 3) := by decide +kernel
theorem dX12_run_60 : decode cX12_run 60 = .ok (.aload_n 0, 1) := by decide +kernel
theorem dX12_run_61 : decode cX12_run 61 = .ok (.invokevirtual 227, 3) := by decide +kernel
theorem dX12_run_64 : decode cX12_run 64 = .ok (.aload_n 0, 1) := by decide +kernel
theorem dX12_run_65 : decode cX12_run 65 = .ok (.getfield 205, 3) := by decide +kernel
theorem dX12_run_68 : decode cX12_run 68 = .ok (.aload_n 0, 1) := by decide +kernel
theorem dX12_run_69 : decode cX12_run 69 = .ok (.getfield 202, 3) := by decide +kernel
theorem dX12_run_72 : decode cX12_run 72 = .ok (.if_icmp .ge 46, 3) := by decide +kernel
theorem dX12_run_75 : decode cX12_run 75 = .ok (.iload_n 2, 1) := by decide +kernel
theorem dX12_run_76 : decode cX12_run 76 = .ok (.ifCond .eq 42, 3) := by decide +kernel
theorem dX12_run_79 : decode cX12_run 79 = .ok (.aload_n 0, 1) := by decide +kernel
theorem dX12_run_80 : decode cX12_run 80 = .ok (.invokevirtual 233, 3) := by decide +kernel
theorem dX12_run_83 : decode cX12_run 83 = .ok (.ifCond .eq 14, 3) := by decide +kernel
theorem dX12_run_86 : decode cX12_run 86 = .ok (.aload_n 0, 1) := by decide +kernel
theorem dX12_run_87 : decode cX12_run 87 = .ok (.invokevirtual 236, 3) := by decide +kernel
theorem dX12_run_90 : decode cX12_run 90 = .ok (.ifCond .ne 7, 3) := by decide +kernel
theorem dX12_run_93 : decode cX12_run 93 = .ok (.iconst 1, 1) := by decide +kernel
theorem dX12_run_94 : decode cX12_run 94 = .ok (.goto 4, 3) := by decide +kernel
theorem dX12_run_97 : decode cX12_run 97 = .ok (.iconst 0, 1) := by decide +kernel
theorem dX12_run_98 : decode cX12_run 98 = .ok (.istore_n 2, 1) := by decide +kernel
theorem dX12_run_99 : decode cX12_run 99 = .ok (.iload_n 1, 1) := by decide +kernel
theorem dX12_run_100 : decode cX12_run 100 = .ok (.iload_n 2, 1) := by decide +kernel
theorem dX12_run_101 : decode cX12_run 101 = .ok (.ifCond .eq 7, 3) := by decide +kernel
theorem dX12_run_104 : decode cX12_run 104 = .ok (.iconst 1, 1) := by decide +kernel
theorem dX12_run_105 : decode cX12_run 105 = .ok (.goto 4, 3) := by decide +kernel
theorem dX12_run_108 : decode cX12_run 108 = .ok (.iconst 0, 1) := by decide +kernel
theorem dX12_run_109 : decode cX12_run 109 = .ok (.iadd, 1) := by decide +kernel
theorem dX12_run_110 : decode cX12_run 110 = .ok (.istore_n 1, 1) := by decide +kernel
theorem dX12_run_111 : decode cX12_run 111 = .ok (.aload_n 0, 1) := by decide +kernel
theorem dX12_run_112 : decode cX12_run 112 = .ok (.invokevirtual 227, 3) := by decide +kernel
theorem dX12_run_115 : decode cX12_run 115 = .ok (.goto (-51), 3) := by decide +kernel
theorem dX12_run_118 : decode cX12_run 118 = .ok (.aload_n 0, 1) := by decide +kernel
theorem dX12_run_119 : decode cX12_run 119 = .ok (.iload_n 1, 1) := by decide +kernel
theorem dX12_run_120 : decode cX12_run 120 = .ok (.invokevirtual 76, 3) := by decide +kernel
theorem dX12_run_123 : decode cX12_run 123 = .ok (.ireturn, 1) := by decide +kernel
theorem dX12_undo_0 : decode cX12_undo 0 = .ok (.aload_n 0, 1) := by decide +kernel
theorem dX12_undo_1 : decode cX12_undo 1 = .ok (.getfield 42, 3) := by decide +kernel
theorem dX12_undo_4 : decode cX12_undo 4 = .ok (.ifCond .ne 9, 3) := by decide +kernel
theorem dX12_undo_7 : decode cX12_undo 7 = .ok (.aload_n 0, 1) := by decide +kernel
theorem dX12_undo_8 : decode cX12_undo 8 = .ok (.iconst 1, 1) := by decide +kernel
theorem dX12_undo_9 : decode cX12_undo 9 = .ok (.invokevirtual 70, 3) := by decide +kernel
theorem dX12_undo_12 : decode cX12_undo 12 = .ok (.ireturn, 1) := by decide +kernel
theorem dX12_undo_13 : decode cX12_undo 13 = .ok (.aload_n 0, 1) := by decide +kernel
theorem dX12_undo_14 : decode cX12_undo 14 = .ok (.dup, 1) := by decide +kernel
theorem dX12_undo_15 : decode cX12_undo 15 = .ok (.getfield 42, 3) := by decide +kernel
theorem dX12_undo_18 : decode cX12_undo 18 = .ok (.iconst 1, 1) := by decide +kernel
theorem dX12_undo_19 : decode cX12_undo 19 = .ok (.isub, 1) := by decide +kernel
theorem dX12_undo_20 : decode cX12_undo 20 = .ok (.putfield 42, 3) := by decide +kernel
theorem dX12_undo_23 : decode cX12_undo 23 = .ok (.iconst 0, 1) := by decide +kernel
theorem dX12_undo_24 : decode cX12_undo 24 = .ok (.istore_n 1, 1) := by decide +kernel
theorem dX12_undo_25 : decode cX12_undo 25 = .ok (.iload_n 1, 1) := by decide +kernel
theorem dX12_undo_26 : decode cX12_undo 26 = .ok (.sipush 487, 3) := by decide +kernel
theorem dX12_undo_29 : decode cX12_undo 29 = .ok (.if_icmp .ge 30, 3) := by decide +kernel
theorem dX12_undo_32 : decode cX12_undo 32 = .ok (.aload_n 0, 1) := by decide +kernel
theorem dX12_undo_33 : decode cX12_undo 33 = .ok (.getfield 7, 3) := by decide +kernel
theorem dX12_undo_36 : decode cX12_undo 36 = .ok (.iload_n 1, 1) := by decide +kernel
theorem dX12_undo_37 : decode cX12_undo 37 = .ok (.aload_n 0, 1) := by decide +kernel
theorem dX12_undo_38 : decode cX12_undo 38 = .ok (.getfield 13, 3) := by decide +kernel
theorem dX12_undo_41 : decode cX12_undo 41 = .ok (.sipush 487, 3) := by decide +kernel
theorem dX12_undo_44 : decode cX12_undo 44 = .ok (.aload_n 0, 1) := by decide +kernel
theorem dX12_undo_45 : decode cX12_undo 45 = .ok (.getfield 42, 3) := by decide +kernel
theorem dX12_undo_48 : decode cX12_undo 48 = .ok (.imul, 1) := by decide +kernel
theorem dX12_undo_49 : decode cX12_undo 49 = .ok (.iload_n 1, 1) := by decide +kernel
theorem dX12_undo_50 : decode cX12_undo 50 = .ok (.iadd, 1) := by decide +kernel
theorem dX12_undo_51 : decode cX12_undo 51 = .ok (.iaload, 1) := by decide +kernel
theorem dX12_undo_52 : decode cX12_undo 52 = .ok (.iastore, 1) := by decide +kernel
theorem dX12_undo_53 : decode cX12_undo 53 = .ok (.iinc 1 1, 3) := by decide +kernel
theorem dX12_undo_56 : decode cX12_undo 56 = .ok (.goto (-31), 3) := by decide +kernel
theorem dX12_undo_59 : decode cX12_undo 59 = .ok (.aload_n 0, 1) := by decide +kernel
theorem dX12_undo_60 : decode cX12_undo 60 = .ok (.aload_n 0, 1) := by decide +kernel
theorem dX12_undo_61 : decode cX12_undo 61 = .ok (.getfield 42, 3) := by decide +kernel
theorem dX12_undo_64 : decode cX12_undo 64 = .ok (.invokevirtual 45, 3) := by decide +kernel
theorem dX12_undo_67 : decode cX12_undo 67 = .ok (.ireturn, 1) := by decide +kernel
theorem dX12_mix_0 : decode cX12_mix 0 = .ok (.aload_n 0, 1) := by decide +kernel
theorem dX12_mix_1 : decode cX12_mix 1 = .ok (.ldc2_w 239, 3) := by decide +kernel
theorem dX12_mix_4 : decode cX12_mix 4 = .ok (.aload_n 0, 1) := by decide +kernel
theorem dX12_mix_5 : decode cX12_mix 5 = .ok (.getfield 241, 3) := by decide +kernel
theorem dX12_mix_8 : decode cX12_mix 8 = .ok (.lmul, 1) := by decide +kernel
theorem dX12_mix_9 : decode cX12_mix 9 = .ok (.iload_n 1, 1) := by decide +kernel
theorem dX12_mix_10 : decode cX12_mix 10 = .ok (.i2l, 1) := by decide +kernel
theorem dX12_mix_11 : decode cX12_mix 11 = .ok (.ladd, 1) := by decide +kernel
theorem dX12_mix_12 : decode cX12_mix 12 = .ok (.putfield 241, 3) := by decide +kernel
theorem dX12_mix_15 : decode cX12_mix 15 = .ok (.return_, 1) := by decide +kernel
theorem dX12_mixLink_0 : decode cX12_mixLink 0 = .ok (.iconst 0, 1) := by decide +kernel
theorem dX12_mixLink_1 : decode cX12_mixLink 1 = .ok (.istore_n 2, 1) := by decide +kernel
theorem dX12_mixLink_2 : decode cX12_mixLink 2 = .ok (.iload_n 2, 1) := by decide +kernel
theorem dX12_mixLink_3 : decode cX12_mixLink 3 = .ok (.bipush 9, 2) := by decide +kernel
theorem dX12_mixLink_5 : decode cX12_mixLink 5 = .ok (.if_icmp .ge 19, 3) := by decide +kernel
theorem dX12_mixLink_8 : decode cX12_mixLink 8 = .ok (.aload_n 0, 1) := by decide +kernel
theorem dX12_mixLink_9 : decode cX12_mixLink 9 = .ok (.aload_n 0, 1) := by decide +kernel
theorem dX12_mixLink_10 : decode cX12_mixLink 10 = .ok (.iload_n 1, 1) := by decide +kernel
theorem dX12_mixLink_11 : decode cX12_mixLink 11 = .ok (.iload_n 2, 1) := by decide +kernel
theorem dX12_mixLink_12 : decode cX12_mixLink 12 = .ok (.invokevirtual 179, 3) := by decide +kernel
theorem dX12_mixLink_15 : decode cX12_mixLink 15 = .ok (.invokevirtual 245, 3) := by decide +kernel
theorem dX12_mixLink_18 : decode cX12_mixLink 18 = .ok (.iinc 2 1, 3) := by decide +kernel
theorem dX12_mixLink_21 : decode cX12_mixLink 21 = .ok (.goto (-19), 3) := by decide +kernel
theorem dX12_mixLink_24 : decode cX12_mixLink 24 = .ok (.bipush 8, 2) := by decide +kernel
theorem dX12_mixLink_26 : decode cX12_mixLink 26 = .ok (.istore_n 2, 1) := by decide +kernel
theorem dX12_mixLink_27 : decode cX12_mixLink 27 = .ok (.iload_n 2, 1) := by decide +kernel
theorem dX12_mixLink_28 : decode cX12_mixLink 28 = .ok (.bipush 18, 2) := by decide +kernel
theorem dX12_mixLink_30 : decode cX12_mixLink 30 = .ok (.if_icmp .ge 19, 3) := by decide +kernel
theorem dX12_mixLink_33 : decode cX12_mixLink 33 = .ok (.aload_n 0, 1) := by decide +kernel
theorem dX12_mixLink_34 : decode cX12_mixLink 34 = .ok (.aload_n 0, 1) := by decide +kernel
theorem dX12_mixLink_35 : decode cX12_mixLink 35 = .ok (.iload_n 1, 1) := by decide +kernel
theorem dX12_mixLink_36 : decode cX12_mixLink 36 = .ok (.iload_n 2, 1) := by decide +kernel
theorem dX12_mixLink_37 : decode cX12_mixLink 37 = .ok (.invokevirtual 62, 3) := by decide +kernel
theorem dX12_mixLink_40 : decode cX12_mixLink 40 = .ok (.invokevirtual 245, 3) := by decide +kernel
theorem dX12_mixLink_43 : decode cX12_mixLink 43 = .ok (.iinc 2 1, 3) := by decide +kernel
theorem dX12_mixLink_46 : decode cX12_mixLink 46 = .ok (.goto (-19), 3) := by decide +kernel
theorem dX12_mixLink_49 : decode cX12_mixLink 49 = .ok (.return_, 1) := by decide +kernel
theorem dX12_mixBridge_0 : decode cX12_mixBridge 0 = .ok (.iconst 0, 1) := by decide +kernel
theorem dX12_mixBridge_1 : decode cX12_mixBridge 1 = .ok (.istore_n 2, 1) := by decide +kernel
theorem dX12_mixBridge_2 : decode cX12_mixBridge 2 = .ok (.iload_n 2, 1) := by decide +kernel
theorem dX12_mixBridge_3 : decode cX12_mixBridge 3 = .ok (.bipush 6, 2) := by decide +kernel
theorem dX12_mixBridge_5 : decode cX12_mixBridge 5 = .ok (.if_icmp .ge 19, 3) := by decide +kernel
theorem dX12_mixBridge_8 : decode cX12_mixBridge 8 = .ok (.aload_n 0, 1) := by decide +kernel
theorem dX12_mixBridge_9 : decode cX12_mixBridge 9 = .ok (.aload_n 0, 1) := by decide +kernel
theorem dX12_mixBridge_10 : decode cX12_mixBridge 10 = .ok (.iload_n 1, 1) := by decide +kernel
theorem dX12_mixBridge_11 : decode cX12_mixBridge 11 = .ok (.iload_n 2, 1) := by decide +kernel
theorem dX12_mixBridge_12 : decode cX12_mixBridge 12 = .ok (.invokevirtual 176, 3) := by decide +kernel
theorem dX12_mixBridge_15 : decode cX12_mixBridge 15 = .ok (.invokevirtual 245, 3) := by decide +kernel
theorem dX12_mixBridge_18 : decode cX12_mixBridge 18 = .ok (.iinc 2 1, 3) := by decide +kernel
theorem dX12_mixBridge_21 : decode cX12_mixBridge 21 = .ok (.goto (-19), 3) := by decide +kernel
theorem dX12_mixBridge_24 : decode cX12_mixBridge 24 = .ok (.iconst 0, 1) := by decide +kernel
theorem dX12_mixBridge_25 : decode cX12_mixBridge 25 = .ok (.istore_n 2, 1) := by decide +kernel
theorem dX12_mixBridge_26 : decode cX12_mixBridge 26 = .ok (.iload_n 2, 1) := by decide +kernel
theorem dX12_mixBridge_27 : decode cX12_mixBridge 27 = .ok (.bipush 8, 2) := by decide +kernel
theorem dX12_mixBridge_29 : decode cX12_mixBridge 29 = .ok (.if_icmp .ge 19, 3) := by decide +kernel
theorem dX12_mixBridge_32 : decode cX12_mixBridge 32 = .ok (.aload_n 0, 1) := by decide +kernel
theorem dX12_mixBridge_33 : decode cX12_mixBridge 33 = .ok (.aload_n 0, 1) := by decide +kernel
theorem dX12_mixBridge_34 : decode cX12_mixBridge 34 = .ok (.iload_n 1, 1) := by decide +kernel
theorem dX12_mixBridge_35 : decode cX12_mixBridge 35 = .ok (.iload_n 2, 1) := by decide +kernel
theorem dX12_mixBridge_36 : decode cX12_mixBridge 36 = .ok (.invokevirtual 170, 3) := by decide +kernel
theorem dX12_mixBridge_39 : decode cX12_mixBridge 39 = .ok (.invokevirtual 245, 3) := by decide +kernel
theorem dX12_mixBridge_42 : decode cX12_mixBridge 42 = .ok (.iinc 2 1, 3) := by decide +kernel
theorem dX12_mixBridge_45 : decode cX12_mixBridge 45 = .ok (.goto (-19), 3) := by decide +kernel
theorem dX12_mixBridge_48 : decode cX12_mixBridge 48 = .ok (.return_, 1) := by decide +kernel
theorem dX12_digest_0 : decode cX12_digest 0 = .ok (.aload_n 0, 1) := by decide +kernel
theorem dX12_digest_1 : decode cX12_digest 1 = .ok (.iconst 0, 1) := by decide +kernel
theorem dX12_digest_2 : decode cX12_digest 2 = .ok (.putfield 38, 3) := by decide +kernel
theorem dX12_digest_5 : decode cX12_digest 5 = .ok (.aload_n 0, 1) := by decide +kernel
theorem dX12_digest_6 : decode cX12_digest 6 = .ok (.ldc2_w 248, 3) := by decide +kernel
theorem dX12_digest_9 : decode cX12_digest 9 = .ok (.putfield 241, 3) := by decide +kernel
theorem dX12_digest_12 : decode cX12_digest 12 = .ok (.aload_n 0, 1) := by decide +kernel
theorem dX12_digest_13 : decode cX12_digest 13 = .ok (.aload_n 0, 1) := by decide +kernel
theorem dX12_digest_14 : decode cX12_digest 14 = .ok (.getfield 42, 3) := by decide +kernel
theorem dX12_digest_17 : decode cX12_digest 17 = .ok (.invokevirtual 245, 3) := by decide +kernel
theorem dX12_digest_20 : decode cX12_digest 20 = .ok (.aload_n 0, 1) := by decide +kernel
theorem dX12_digest_21 : decode cX12_digest 21 = .ok (.aload_n 0, 1) := by decide +kernel
theorem dX12_digest_22 : decode cX12_digest 22 = .ok (.getfield 202, 3) := by decide +kernel
theorem dX12_digest_25 : decode cX12_digest 25 = .ok (.invokevirtual 245, 3) := by decide +kernel
theorem dX12_digest_28 : decode cX12_digest 28 = .ok (.iconst 0, 1) := by decide +kernel
theorem dX12_digest_29 : decode cX12_digest 29 = .ok (.istore_n 1, 1) := by decide +kernel
theorem dX12_digest_30 : decode cX12_digest 30 = .ok (.iload_n 1, 1) := by decide +kernel
theorem dX12_digest_31 : decode cX12_digest 31 = .ok (.iconst 5, 1) := by decide +kernel
theorem dX12_digest_32 : decode cX12_digest 32 = .ok (.if_icmp .ge 19, 3) := by decide +kernel
theorem dX12_digest_35 : decode cX12_digest 35 = .ok (.aload_n 0, 1) := by decide +kernel
theorem dX12_digest_36 : decode cX12_digest 36 = .ok (.aload_n 0, 1) := by decide +kernel
theorem dX12_digest_37 : decode cX12_digest 37 = .ok (.getfield 7, 3) := by decide +kernel
theorem dX12_digest_40 : decode cX12_digest 40 = .ok (.iload_n 1, 1) := by decide +kernel
theorem dX12_digest_41 : decode cX12_digest 41 = .ok (.iaload, 1) := by decide +kernel
theorem dX12_digest_42 : decode cX12_digest 42 = .ok (.invokevirtual 245, 3) := by decide +kernel
theorem dX12_digest_45 : decode cX12_digest 45 = .ok (.iinc 1 1, 3) := by decide +kernel
theorem dX12_digest_48 : decode cX12_digest 48 = .ok (.goto (-18), 3) := by decide +kernel
theorem dX12_digest_51 : decode cX12_digest 51 = .ok (.iconst 0, 1) := by decide +kernel
theorem dX12_digest_52 : decode cX12_digest 52 = .ok (.istore_n 1, 1) := by decide +kernel
theorem dX12_digest_53 : decode cX12_digest 53 = .ok (.iload_n 1, 1) := by decide +kernel
theorem dX12_digest_54 : decode cX12_digest 54 = .ok (.aload_n 0, 1) := by decide +kernel
theorem dX12_digest_55 : decode cX12_digest 55 = .ok (.getfield 7, 3) := by decide +kernel
theorem dX12_digest_58 : decode cX12_digest 58 = .ok (.iconst 0, 1) := by decide +kernel
theorem dX12_digest_59 : decode cX12_digest 59 = .ok (.iaload, 1) := by decide +kernel
theorem dX12_digest_60 : decode cX12_digest 60 = .ok (.if_icmp .ge 14, 3) := by decide +kernel
theorem dX12_digest_63 : decode cX12_digest 63 = .ok (.aload_n 0, 1) := by decide +kernel
theorem dX12_digest_64 : decode cX12_digest 64 = .ok (.iload_n 1, 1) := by decide +kernel
theorem dX12_digest_65 : decode cX12_digest 65 = .ok (.invokevirtual 250, 3) := by decide +kernel
theorem dX12_digest_68 : decode cX12_digest 68 = .ok (.iinc 1 1, 3) := by decide +kernel
theorem dX12_digest_71 : decode cX12_digest 71 = .ok (.goto (-18), 3) := by decide +kernel
theorem dX12_digest_74 : decode cX12_digest 74 = .ok (.iconst 0, 1) := by decide +kernel
theorem dX12_digest_75 : decode cX12_digest 75 = .ok (.istore_n 1, 1) := by decide +kernel
theorem dX12_digest_76 : decode cX12_digest 76 = .ok (.iload_n 1, 1) := by decide +kernel
theorem dX12_digest_77 : decode cX12_digest 77 = .ok (.bipush 8, 2) := by decide +kernel
theorem dX12_digest_79 : decode cX12_digest 79 = .ok (.if_icmp .ge 23, 3) := by decide +kernel
theorem dX12_digest_82 : decode cX12_digest 82 = .ok (.aload_n 0, 1) := by decide +kernel
theorem dX12_digest_83 : decode cX12_digest 83 = .ok (.aload_n 0, 1) := by decide +kernel
theorem dX12_digest_84 : decode cX12_digest 84 = .ok (.getfield 7, 3) := by decide +kernel
theorem dX12_digest_87 : decode cX12_digest 87 = .ok (.sipush 179, 3) := by decide +kernel
theorem dX12_digest_90 : decode cX12_digest 90 = .ok (.iload_n 1, 1) := by decide +kernel
theorem dX12_digest_91 : decode cX12_digest 91 = .ok (.iadd, 1) := by decide +kernel
theorem dX12_digest_92 : decode cX12_digest 92 = .ok (.iaload, 1) := by decide +kernel
theorem dX12_digest_93 : decode cX12_digest 93 = .ok (.invokevirtual 245, 3) := by decide +kernel
theorem dX12_digest_96 : decode cX12_digest 96 = .ok (.iinc 1 1, 3) := by decide +kernel
theorem dX12_digest_99 : decode cX12_digest 99 = .ok (.goto (-23), 3) := by decide +kernel
theorem dX12_digest_102 : decode cX12_digest 102 = .ok (.aload_n 0, 1) := by decide +kernel
theorem dX12_digest_103 : decode cX12_digest 103 = .ok (.aload_n 0, 1) := by decide +kernel
theorem dX12_digest_104 : decode cX12_digest 104 = .ok (.getfield 7, 3) := by decide +kernel
theorem dX12_digest_107 : decode cX12_digest 107 = .ok (.iconst 5, 1) := by decide +kernel
theorem dX12_digest_108 : decode cX12_digest 108 = .ok (.iaload, 1) := by decide +kernel
theorem dX12_digest_109 : decode cX12_digest 109 = .ok (.invokevirtual 245, 3) := by decide +kernel
theorem dX12_digest_112 : decode cX12_digest 112 = .ok (.iconst 0, 1) := by decide +kernel
theorem dX12_digest_113 : decode cX12_digest 113 = .ok (.istore_n 1, 1) := by decide +kernel
theorem dX12_digest_114 : decode cX12_digest 114 = .ok (.iload_n 1, 1) := by decide +kernel
theorem dX12_digest_115 : decode cX12_digest 115 = .ok (.aload_n 0, 1) := by decide +kernel
theorem dX12_digest_116 : decode cX12_digest 116 = .ok (.getfield 7, 3) := by decide +kernel
theorem dX12_digest_119 : decode cX12_digest 119 = .ok (.iconst 5, 1) := by decide +kernel
theorem dX12_digest_120 : decode cX12_digest 120 = .ok (.iaload, 1) := by decide +kernel
theorem dX12_digest_121 : decode cX12_digest 121 = .ok (.if_icmp .ge 14, 3) := by decide +kernel
theorem dX12_digest_124 : decode cX12_digest 124 = .ok (.aload_n 0, 1) := by decide +kernel
theorem dX12_digest_125 : decode cX12_digest 125 = .ok (.iload_n 1, 1) := by decide +kernel
theorem dX12_digest_126 : decode cX12_digest 126 = .ok (.invokevirtual 253, 3) := by decide +kernel
theorem dX12_digest_129 : decode cX12_digest 129 = .ok (.iinc 1 1, 3) := by decide +kernel
theorem dX12_digest_132 : decode cX12_digest 132 = .ok (.goto (-18), 3) := by decide +kernel
theorem dX12_digest_135 : decode cX12_digest 135 = .ok (.iconst 0, 1) := by decide +kernel
theorem dX12_digest_136 : decode cX12_digest 136 = .ok (.istore_n 1, 1) := by decide +kernel
theorem dX12_digest_137 : decode cX12_digest 137 = .ok (.iload_n 1, 1) := by decide +kernel
theorem dX12_digest_138 : decode cX12_digest 138 = .ok (.bipush 16, 2) := by decide +kernel
theorem dX12_digest_140 : decode cX12_digest 140 = .ok (.if_icmp .ge 23, 3) := by decide +kernel
theorem dX12_digest_143 : decode cX12_digest 143 = .ok (.aload_n 0, 1) := by decide +kernel
theorem dX12_digest_144 : decode cX12_digest 144 = .ok (.aload_n 0, 1) := by decide +kernel
theorem dX12_digest_145 : decode cX12_digest 145 = .ok (.iload_n 1, 1) := by decide +kernel
theorem dX12_digest_146 : decode cX12_digest 146 = .ok (.iconst 4, 1) := by decide +kernel
theorem dX12_digest_147 : decode cX12_digest 147 = .ok (.idiv, 1) := by decide +kernel
theorem dX12_digest_148 : decode cX12_digest 148 = .ok (.iload_n 1, 1) := by decide +kernel
theorem dX12_digest_149 : decode cX12_digest 149 = .ok (.iconst 4, 1) := by decide +kernel
theorem dX12_digest_150 : decode cX12_digest 150 = .ok (.irem, 1) := by decide +kernel
theorem dX12_digest_151 : decode cX12_digest 151 = .ok (.invokevirtual 185, 3) := by decide +kernel
theorem dX12_digest_154 : decode cX12_digest 154 = .ok (.invokevirtual 245, 3) := by decide +kernel
theorem dX12_digest_157 : decode cX12_digest 157 = .ok (.iinc 1 1, 3) := by decide +kernel
theorem dX12_digest_160 : decode cX12_digest 160 = .ok (.goto (-23), 3) := by decide +kernel
theorem dX12_digest_163 : decode cX12_digest 163 = .ok (.iconst 0, 1) := by decide +kernel
theorem dX12_digest_164 : decode cX12_digest 164 = .ok (.istore_n 1, 1) := by decide +kernel
theorem dX12_digest_165 : decode cX12_digest 165 = .ok (.iload_n 1, 1) := by decide +kernel
theorem dX12_digest_166 : decode cX12_digest 166 = .ok (.bipush 7, 2) := by decide +kernel
theorem dX12_digest_168 : decode cX12_digest 168 = .ok (.if_icmp .ge 18, 3) := by decide +kernel
theorem dX12_digest_171 : decode cX12_digest 171 = .ok (.aload_n 0, 1) := by decide +kernel
theorem dX12_digest_172 : decode cX12_digest 172 = .ok (.aload_n 0, 1) := by decide +kernel
theorem dX12_digest_173 : decode cX12_digest 173 = .ok (.iload_n 1, 1) := by decide +kernel
theorem dX12_digest_174 : decode cX12_digest 174 = .ok (.invokevirtual 195, 3) := by decide +kernel
theorem dX12_digest_177 : decode cX12_digest 177 = .ok (.invokevirtual 245, 3) := by decide +kernel
theorem dX12_digest_180 : decode cX12_digest 180 = .ok (.iinc 1 1, 3) := by decide +kernel
theorem dX12_digest_183 : decode cX12_digest 183 = .ok (.goto (-18), 3) := by decide +kernel
theorem dX12_digest_186 : decode cX12_digest 186 = .ok (.aload_n 0, 1) := by decide +kernel
theorem dX12_digest_187 : decode cX12_digest 187 = .ok (.aload_n 0, 1) := by decide +kernel
theorem dX12_digest_188 : decode cX12_digest 188 = .ok (.invokevirtual 198, 3) := by decide +kernel
theorem dX12_digest_191 : decode cX12_digest 191 = .ok (.ifCond .eq 7, 3) := by decide +kernel
theorem dX12_digest_194 : decode cX12_digest 194 = .ok (.iconst 1, 1) := by decide +kernel
theorem dX12_digest_195 : decode cX12_digest 195 = .ok (.goto 4, 3) := by decide +kernel
theorem dX12_digest_198 : decode cX12_digest 198 = .ok (.iconst 0, 1) := by decide +kernel
theorem dX12_digest_199 : decode cX12_digest 199 = .ok (.invokevirtual 245, 3) := by decide +kernel
theorem dX12_digest_202 : decode cX12_digest 202 = .ok (.aload_n 0, 1) := by decide +kernel
theorem dX12_digest_203 : decode cX12_digest 203 = .ok (.getfield 241, 3) := by decide +kernel
theorem dX12_digest_206 : decode cX12_digest 206 = .ok (.lreturn, 1) := by decide +kernel
theorem dL_setBridges_0 : decode cL_setBridges 0 = .ok (.aload_n 2, 1) := by decide +kernel
theorem dL_setBridges_1 : decode cL_setBridges 1 = .ok (.iconst 0, 1) := by decide +kernel
theorem dL_setBridges_2 : decode cL_setBridges 2 = .ok (.aload_n 0, 1) := by decide +kernel
theorem dL_setBridges_3 : decode cL_setBridges 3 = .ok (.iload_n 1, 1) := by decide +kernel
theorem dL_setBridges_4 : decode cL_setBridges 4 = .ok (.invokevirtual 7, 3) := by decide +kernel
theorem dL_setBridges_7 : decode cL_setBridges 7 = .ok (.i2l, 1) := by decide +kernel
theorem dL_setBridges_8 : decode cL_setBridges 8 = .ok (.lastore, 1) := by decide +kernel
theorem dL_setBridges_9 : decode cL_setBridges 9 = .ok (.goto 6, 3) := by decide +kernel
theorem dL_setBridges_12 : decode cL_setBridges 12 = .ok (.astore_n 3, 1) := by decide +kernel
theorem dL_setBridges_13 : decode cL_setBridges 13 = .ok (.iconst 1, 1) := by decide +kernel
theorem dL_setBridges_14 : decode cL_setBridges 14 = .ok (.ireturn, 1) := by decide +kernel
theorem dL_setBridges_15 : decode cL_setBridges 15 = .ok (.iconst 0, 1) := by decide +kernel
theorem dL_setBridges_16 : decode cL_setBridges 16 = .ok (.ireturn, 1) := by decide +kernel
theorem dL_setTimes_0 : decode cL_setTimes 0 = .ok (.aload 4, 2) := by decide +kernel
theorem dL_setTimes_2 : decode cL_setTimes 2 = .ok (.iconst 0, 1) := by decide +kernel
theorem dL_setTimes_3 : decode cL_setTimes 3 = .ok (.aload_n 0, 1) := by decide +kernel
theorem dL_setTimes_4 : decode cL_setTimes 4 = .ok (.iload_n 1, 1) := by decide +kernel
theorem dL_setTimes_5 : decode cL_setTimes 5 = .ok (.iload_n 2, 1) := by decide +kernel
theorem dL_setTimes_6 : decode cL_setTimes 6 = .ok (.iload_n 3, 1) := by decide +kernel
theorem dL_setTimes_7 : decode cL_setTimes 7 = .ok (.invokevirtual 15, 3) := by decide +kernel
theorem dL_setTimes_10 : decode cL_setTimes 10 = .ok (.i2l, 1) := by decide +kernel
theorem dL_setTimes_11 : decode cL_setTimes 11 = .ok (.lastore, 1) := by decide +kernel
theorem dL_setTimes_12 : decode cL_setTimes 12 = .ok (.goto 7, 3) := by decide +kernel
theorem dL_setTimes_15 : decode cL_setTimes 15 = .ok (.astore 5, 2) := by decide +kernel
theorem dL_setTimes_17 : decode cL_setTimes 17 = .ok (.iconst 1, 1) := by decide +kernel
theorem dL_setTimes_18 : decode cL_setTimes 18 = .ok (.ireturn, 1) := by decide +kernel
theorem dL_setTimes_19 : decode cL_setTimes 19 = .ok (.iconst 0, 1) := by decide +kernel
theorem dL_setTimes_20 : decode cL_setTimes 20 = .ok (.ireturn, 1) := by decide +kernel
theorem dL_setPriority_0 : decode cL_setPriority 0 = .ok (.aload_n 3, 1) := by decide +kernel
theorem dL_setPriority_1 : decode cL_setPriority 1 = .ok (.iconst 0, 1) := by decide +kernel
theorem dL_setPriority_2 : decode cL_setPriority 2 = .ok (.aload_n 0, 1) := by decide +kernel
theorem dL_setPriority_3 : decode cL_setPriority 3 = .ok (.iload_n 1, 1) := by decide +kernel
theorem dL_setPriority_4 : decode cL_setPriority 4 = .ok (.iload_n 2, 1) := by decide +kernel
theorem dL_setPriority_5 : decode cL_setPriority 5 = .ok (.invokevirtual 19, 3) := by decide +kernel
theorem dL_setPriority_8 : decode cL_setPriority 8 = .ok (.i2l, 1) := by decide +kernel
theorem dL_setPriority_9 : decode cL_setPriority 9 = .ok (.lastore, 1) := by decide +kernel
theorem dL_setPriority_10 : decode cL_setPriority 10 = .ok (.goto 11, 3) := by decide +kernel
theorem dL_setPriority_13 : decode cL_setPriority 13 = .ok (.astore 4, 2) := by decide +kernel
theorem dL_setPriority_15 : decode cL_setPriority 15 = .ok (.iconst 1, 1) := by decide +kernel
theorem dL_setPriority_16 : decode cL_setPriority 16 = .ok (.ireturn, 1) := by decide +kernel
theorem dL_setPriority_17 : decode cL_setPriority 17 = .ok (.astore 4, 2) := by decide +kernel
theorem dL_setPriority_19 : decode cL_setPriority 19 = .ok (.iconst 2, 1) := by decide +kernel
theorem dL_setPriority_20 : decode cL_setPriority 20 = .ok (.ireturn, 1) := by decide +kernel
theorem dL_setPriority_21 : decode cL_setPriority 21 = .ok (.iconst 0, 1) := by decide +kernel
theorem dL_setPriority_22 : decode cL_setPriority 22 = .ok (.ireturn, 1) := by decide +kernel
theorem dL_addLink_0 : decode cL_addLink 0 = .ok (.aload 4, 2) := by decide +kernel
theorem dL_addLink_2 : decode cL_addLink 2 = .ok (.iconst 0, 1) := by decide +kernel
theorem dL_addLink_3 : decode cL_addLink 3 = .ok (.aload_n 0, 1) := by decide +kernel
theorem dL_addLink_4 : decode cL_addLink 4 = .ok (.iload_n 1, 1) := by decide +kernel
theorem dL_addLink_5 : decode cL_addLink 5 = .ok (.iload_n 2, 1) := by decide +kernel
theorem dL_addLink_6 : decode cL_addLink 6 = .ok (.iload_n 3, 1) := by decide +kernel
theorem dL_addLink_7 : decode cL_addLink 7 = .ok (.invokevirtual 25, 3) := by decide +kernel
theorem dL_addLink_10 : decode cL_addLink 10 = .ok (.i2l, 1) := by decide +kernel
theorem dL_addLink_11 : decode cL_addLink 11 = .ok (.lastore, 1) := by decide +kernel
theorem dL_addLink_12 : decode cL_addLink 12 = .ok (.goto 15, 3) := by decide +kernel
theorem dL_addLink_15 : decode cL_addLink 15 = .ok (.astore 5, 2) := by decide +kernel
theorem dL_addLink_17 : decode cL_addLink 17 = .ok (.iconst 1, 1) := by decide +kernel
theorem dL_addLink_18 : decode cL_addLink 18 = .ok (.ireturn, 1) := by decide +kernel
theorem dL_addLink_19 : decode cL_addLink 19 = .ok (.astore 5, 2) := by decide +kernel
theorem dL_addLink_21 : decode cL_addLink 21 = .ok (.iconst 2, 1) := by decide +kernel
theorem dL_addLink_22 : decode cL_addLink 22 = .ok (.ireturn, 1) := by decide +kernel
theorem dL_addLink_23 : decode cL_addLink 23 = .ok (.astore 5, 2) := by decide +kernel
theorem dL_addLink_25 : decode cL_addLink 25 = .ok (.iconst 3, 1) := by decide +kernel
theorem dL_addLink_26 : decode cL_addLink 26 = .ok (.ireturn, 1) := by decide +kernel
theorem dL_addLink_27 : decode cL_addLink 27 = .ok (.iconst 0, 1) := by decide +kernel
theorem dL_addLink_28 : decode cL_addLink 28 = .ok (.ireturn, 1) := by decide +kernel
theorem dL_fail_0 : decode cL_fail 0 = .ok (.aload_n 2, 1) := by decide +kernel
theorem dL_fail_1 : decode cL_fail 1 = .ok (.iconst 0, 1) := by decide +kernel
theorem dL_fail_2 : decode cL_fail 2 = .ok (.aload_n 0, 1) := by decide +kernel
theorem dL_fail_3 : decode cL_fail 3 = .ok (.iload_n 1, 1) := by decide +kernel
theorem dL_fail_4 : decode cL_fail 4 = .ok (.invokevirtual 30, 3) := by decide +kernel
theorem dL_fail_7 : decode cL_fail 7 = .ok (.i2l, 1) := by decide +kernel
theorem dL_fail_8 : decode cL_fail 8 = .ok (.lastore, 1) := by decide +kernel
theorem dL_fail_9 : decode cL_fail 9 = .ok (.goto 9, 3) := by decide +kernel
theorem dL_fail_12 : decode cL_fail 12 = .ok (.astore_n 3, 1) := by decide +kernel
theorem dL_fail_13 : decode cL_fail 13 = .ok (.iconst 1, 1) := by decide +kernel
theorem dL_fail_14 : decode cL_fail 14 = .ok (.ireturn, 1) := by decide +kernel
theorem dL_fail_15 : decode cL_fail 15 = .ok (.astore_n 3, 1) := by decide +kernel
theorem dL_fail_16 : decode cL_fail 16 = .ok (.iconst 2, 1) := by decide +kernel
theorem dL_fail_17 : decode cL_fail 17 = .ok (.ireturn, 1) := by decide +kernel
theorem dL_fail_18 : decode cL_fail 18 = .ok (.iconst 0, 1) := by decide +kernel
theorem dL_fail_19 : decode cL_fail 19 = .ok (.ireturn, 1) := by decide +kernel
theorem dL_fix_0 : decode cL_fix 0 = .ok (.aload_n 2, 1) := by decide +kernel
theorem dL_fix_1 : decode cL_fix 1 = .ok (.iconst 0, 1) := by decide +kernel
theorem dL_fix_2 : decode cL_fix 2 = .ok (.aload_n 0, 1) := by decide +kernel
theorem dL_fix_3 : decode cL_fix 3 = .ok (.iload_n 1, 1) := by decide +kernel
theorem dL_fix_4 : decode cL_fix 4 = .ok (.invokevirtual 33, 3) := by decide +kernel
theorem dL_fix_7 : decode cL_fix 7 = .ok (.i2l, 1) := by decide +kernel
theorem dL_fix_8 : decode cL_fix 8 = .ok (.lastore, 1) := by decide +kernel
theorem dL_fix_9 : decode cL_fix 9 = .ok (.goto 9, 3) := by decide +kernel
theorem dL_fix_12 : decode cL_fix 12 = .ok (.astore_n 3, 1) := by decide +kernel
theorem dL_fix_13 : decode cL_fix 13 = .ok (.iconst 1, 1) := by decide +kernel
theorem dL_fix_14 : decode cL_fix 14 = .ok (.ireturn, 1) := by decide +kernel
theorem dL_fix_15 : decode cL_fix 15 = .ok (.astore_n 3, 1) := by decide +kernel
theorem dL_fix_16 : decode cL_fix 16 = .ok (.iconst 2, 1) := by decide +kernel
theorem dL_fix_17 : decode cL_fix 17 = .ok (.ireturn, 1) := by decide +kernel
theorem dL_fix_18 : decode cL_fix 18 = .ok (.iconst 0, 1) := by decide +kernel
theorem dL_fix_19 : decode cL_fix 19 = .ok (.ireturn, 1) := by decide +kernel
theorem dL_moveHost_0 : decode cL_moveHost 0 = .ok (.aload_n 3, 1) := by decide +kernel
theorem dL_moveHost_1 : decode cL_moveHost 1 = .ok (.iconst 0, 1) := by decide +kernel
theorem dL_moveHost_2 : decode cL_moveHost 2 = .ok (.aload_n 0, 1) := by decide +kernel
theorem dL_moveHost_3 : decode cL_moveHost 3 = .ok (.iload_n 1, 1) := by decide +kernel
theorem dL_moveHost_4 : decode cL_moveHost 4 = .ok (.iload_n 2, 1) := by decide +kernel
theorem dL_moveHost_5 : decode cL_moveHost 5 = .ok (.invokevirtual 36, 3) := by decide +kernel
theorem dL_moveHost_8 : decode cL_moveHost 8 = .ok (.i2l, 1) := by decide +kernel
theorem dL_moveHost_9 : decode cL_moveHost 9 = .ok (.lastore, 1) := by decide +kernel
theorem dL_moveHost_10 : decode cL_moveHost 10 = .ok (.goto 7, 3) := by decide +kernel
theorem dL_moveHost_13 : decode cL_moveHost 13 = .ok (.astore 4, 2) := by decide +kernel
theorem dL_moveHost_15 : decode cL_moveHost 15 = .ok (.iconst 1, 1) := by decide +kernel
theorem dL_moveHost_16 : decode cL_moveHost 16 = .ok (.ireturn, 1) := by decide +kernel
theorem dL_moveHost_17 : decode cL_moveHost 17 = .ok (.iconst 0, 1) := by decide +kernel
theorem dL_moveHost_18 : decode cL_moveHost 18 = .ok (.ireturn, 1) := by decide +kernel
theorem dL_bid_0 : decode cL_bid 0 = .ok (.aload 4, 2) := by decide +kernel
theorem dL_bid_2 : decode cL_bid 2 = .ok (.iconst 0, 1) := by decide +kernel
theorem dL_bid_3 : decode cL_bid 3 = .ok (.aload_n 0, 1) := by decide +kernel
theorem dL_bid_4 : decode cL_bid 4 = .ok (.iload_n 1, 1) := by decide +kernel
theorem dL_bid_5 : decode cL_bid 5 = .ok (.iload_n 2, 1) := by decide +kernel
theorem dL_bid_6 : decode cL_bid 6 = .ok (.iload_n 3, 1) := by decide +kernel
theorem dL_bid_7 : decode cL_bid 7 = .ok (.invokevirtual 39, 3) := by decide +kernel
theorem dL_bid_10 : decode cL_bid 10 = .ok (.i2l, 1) := by decide +kernel
theorem dL_bid_11 : decode cL_bid 11 = .ok (.lastore, 1) := by decide +kernel
theorem dL_bid_12 : decode cL_bid 12 = .ok (.goto 11, 3) := by decide +kernel
theorem dL_bid_15 : decode cL_bid 15 = .ok (.astore 5, 2) := by decide +kernel
theorem dL_bid_17 : decode cL_bid 17 = .ok (.iconst 1, 1) := by decide +kernel
theorem dL_bid_18 : decode cL_bid 18 = .ok (.ireturn, 1) := by decide +kernel
theorem dL_bid_19 : decode cL_bid 19 = .ok (.astore 5, 2) := by decide +kernel
theorem dL_bid_21 : decode cL_bid 21 = .ok (.iconst 2, 1) := by decide +kernel
theorem dL_bid_22 : decode cL_bid 22 = .ok (.ireturn, 1) := by decide +kernel
theorem dL_bid_23 : decode cL_bid 23 = .ok (.iconst 0, 1) := by decide +kernel
theorem dL_bid_24 : decode cL_bid 24 = .ok (.ireturn, 1) := by decide +kernel
theorem dL_grant_0 : decode cL_grant 0 = .ok (.aload_n 3, 1) := by decide +kernel
theorem dL_grant_1 : decode cL_grant 1 = .ok (.iconst 0, 1) := by decide +kernel
theorem dL_grant_2 : decode cL_grant 2 = .ok (.aload_n 0, 1) := by decide +kernel
theorem dL_grant_3 : decode cL_grant 3 = .ok (.iload_n 1, 1) := by decide +kernel
theorem dL_grant_4 : decode cL_grant 4 = .ok (.iload_n 2, 1) := by decide +kernel
theorem dL_grant_5 : decode cL_grant 5 = .ok (.invokevirtual 42, 3) := by decide +kernel
theorem dL_grant_8 : decode cL_grant 8 = .ok (.i2l, 1) := by decide +kernel
theorem dL_grant_9 : decode cL_grant 9 = .ok (.lastore, 1) := by decide +kernel
theorem dL_grant_10 : decode cL_grant 10 = .ok (.goto 15, 3) := by decide +kernel
theorem dL_grant_13 : decode cL_grant 13 = .ok (.astore 4, 2) := by decide +kernel
theorem dL_grant_15 : decode cL_grant 15 = .ok (.iconst 1, 1) := by decide +kernel
theorem dL_grant_16 : decode cL_grant 16 = .ok (.ireturn, 1) := by decide +kernel
theorem dL_grant_17 : decode cL_grant 17 = .ok (.astore 4, 2) := by decide +kernel
theorem dL_grant_19 : decode cL_grant 19 = .ok (.iconst 2, 1) := by decide +kernel
theorem dL_grant_20 : decode cL_grant 20 = .ok (.ireturn, 1) := by decide +kernel
theorem dL_grant_21 : decode cL_grant 21 = .ok (.astore 4, 2) := by decide +kernel
theorem dL_grant_23 : decode cL_grant 23 = .ok (.iconst 3, 1) := by decide +kernel
theorem dL_grant_24 : decode cL_grant 24 = .ok (.ireturn, 1) := by decide +kernel
theorem dL_grant_25 : decode cL_grant 25 = .ok (.iconst 0, 1) := by decide +kernel
theorem dL_grant_26 : decode cL_grant 26 = .ok (.ireturn, 1) := by decide +kernel
theorem dL_tick_0 : decode cL_tick 0 = .ok (.aload_n 2, 1) := by decide +kernel
theorem dL_tick_1 : decode cL_tick 1 = .ok (.iconst 0, 1) := by decide +kernel
theorem dL_tick_2 : decode cL_tick 2 = .ok (.aload_n 0, 1) := by decide +kernel
theorem dL_tick_3 : decode cL_tick 3 = .ok (.iload_n 1, 1) := by decide +kernel
theorem dL_tick_4 : decode cL_tick 4 = .ok (.invokevirtual 45, 3) := by decide +kernel
theorem dL_tick_7 : decode cL_tick 7 = .ok (.i2l, 1) := by decide +kernel
theorem dL_tick_8 : decode cL_tick 8 = .ok (.lastore, 1) := by decide +kernel
theorem dL_tick_9 : decode cL_tick 9 = .ok (.goto 6, 3) := by decide +kernel
theorem dL_tick_12 : decode cL_tick 12 = .ok (.astore_n 3, 1) := by decide +kernel
theorem dL_tick_13 : decode cL_tick 13 = .ok (.iconst 1, 1) := by decide +kernel
theorem dL_tick_14 : decode cL_tick 14 = .ok (.ireturn, 1) := by decide +kernel
theorem dL_tick_15 : decode cL_tick 15 = .ok (.iconst 0, 1) := by decide +kernel
theorem dL_tick_16 : decode cL_tick 16 = .ok (.ireturn, 1) := by decide +kernel
theorem dL_send_0 : decode cL_send 0 = .ok (.aload_n 3, 1) := by decide +kernel
theorem dL_send_1 : decode cL_send 1 = .ok (.iconst 0, 1) := by decide +kernel
theorem dL_send_2 : decode cL_send 2 = .ok (.aload_n 0, 1) := by decide +kernel
theorem dL_send_3 : decode cL_send 3 = .ok (.iload_n 1, 1) := by decide +kernel
theorem dL_send_4 : decode cL_send 4 = .ok (.iload_n 2, 1) := by decide +kernel
theorem dL_send_5 : decode cL_send 5 = .ok (.invokevirtual 48, 3) := by decide +kernel
theorem dL_send_8 : decode cL_send 8 = .ok (.i2l, 1) := by decide +kernel
theorem dL_send_9 : decode cL_send 9 = .ok (.lastore, 1) := by decide +kernel
theorem dL_send_10 : decode cL_send 10 = .ok (.goto 11, 3) := by decide +kernel
theorem dL_send_13 : decode cL_send 13 = .ok (.astore 4, 2) := by decide +kernel
theorem dL_send_15 : decode cL_send 15 = .ok (.iconst 1, 1) := by decide +kernel
theorem dL_send_16 : decode cL_send 16 = .ok (.ireturn, 1) := by decide +kernel
theorem dL_send_17 : decode cL_send 17 = .ok (.astore 4, 2) := by decide +kernel
theorem dL_send_19 : decode cL_send 19 = .ok (.iconst 2, 1) := by decide +kernel
theorem dL_send_20 : decode cL_send 20 = .ok (.ireturn, 1) := by decide +kernel
theorem dL_send_21 : decode cL_send 21 = .ok (.iconst 0, 1) := by decide +kernel
theorem dL_send_22 : decode cL_send 22 = .ok (.ireturn, 1) := by decide +kernel
theorem dL_bridge_0 : decode cL_bridge 0 = .ok (.aload_n 3, 1) := by decide +kernel
theorem dL_bridge_1 : decode cL_bridge 1 = .ok (.iconst 0, 1) := by decide +kernel
theorem dL_bridge_2 : decode cL_bridge 2 = .ok (.aload_n 0, 1) := by decide +kernel
theorem dL_bridge_3 : decode cL_bridge 3 = .ok (.iload_n 1, 1) := by decide +kernel
theorem dL_bridge_4 : decode cL_bridge 4 = .ok (.iload_n 2, 1) := by decide +kernel
theorem dL_bridge_5 : decode cL_bridge 5 = .ok (.invokevirtual 51, 3) := by decide +kernel
theorem dL_bridge_8 : decode cL_bridge 8 = .ok (.i2l, 1) := by decide +kernel
theorem dL_bridge_9 : decode cL_bridge 9 = .ok (.lastore, 1) := by decide +kernel
theorem dL_bridge_10 : decode cL_bridge 10 = .ok (.goto 11, 3) := by decide +kernel
theorem dL_bridge_13 : decode cL_bridge 13 = .ok (.astore 4, 2) := by decide +kernel
theorem dL_bridge_15 : decode cL_bridge 15 = .ok (.iconst 1, 1) := by decide +kernel
theorem dL_bridge_16 : decode cL_bridge 16 = .ok (.ireturn, 1) := by decide +kernel
theorem dL_bridge_17 : decode cL_bridge 17 = .ok (.astore 4, 2) := by decide +kernel
theorem dL_bridge_19 : decode cL_bridge 19 = .ok (.iconst 2, 1) := by decide +kernel
theorem dL_bridge_20 : decode cL_bridge 20 = .ok (.ireturn, 1) := by decide +kernel
theorem dL_bridge_21 : decode cL_bridge 21 = .ok (.iconst 0, 1) := by decide +kernel
theorem dL_bridge_22 : decode cL_bridge 22 = .ok (.ireturn, 1) := by decide +kernel
theorem dL_link_0 : decode cL_link 0 = .ok (.aload_n 3, 1) := by decide +kernel
theorem dL_link_1 : decode cL_link 1 = .ok (.iconst 0, 1) := by decide +kernel
theorem dL_link_2 : decode cL_link 2 = .ok (.aload_n 0, 1) := by decide +kernel
theorem dL_link_3 : decode cL_link 3 = .ok (.iload_n 1, 1) := by decide +kernel
theorem dL_link_4 : decode cL_link 4 = .ok (.iload_n 2, 1) := by decide +kernel
theorem dL_link_5 : decode cL_link 5 = .ok (.invokevirtual 54, 3) := by decide +kernel
theorem dL_link_8 : decode cL_link 8 = .ok (.i2l, 1) := by decide +kernel
theorem dL_link_9 : decode cL_link 9 = .ok (.lastore, 1) := by decide +kernel
theorem dL_link_10 : decode cL_link 10 = .ok (.goto 11, 3) := by decide +kernel
theorem dL_link_13 : decode cL_link 13 = .ok (.astore 4, 2) := by decide +kernel
theorem dL_link_15 : decode cL_link 15 = .ok (.iconst 1, 1) := by decide +kernel
theorem dL_link_16 : decode cL_link 16 = .ok (.ireturn, 1) := by decide +kernel
theorem dL_link_17 : decode cL_link 17 = .ok (.astore 4, 2) := by decide +kernel
theorem dL_link_19 : decode cL_link 19 = .ok (.iconst 2, 1) := by decide +kernel
theorem dL_link_20 : decode cL_link 20 = .ok (.ireturn, 1) := by decide +kernel
theorem dL_link_21 : decode cL_link 21 = .ok (.iconst 0, 1) := by decide +kernel
theorem dL_link_22 : decode cL_link 22 = .ok (.ireturn, 1) := by decide +kernel
theorem dL_port_0 : decode cL_port 0 = .ok (.aload 4, 2) := by decide +kernel
theorem dL_port_2 : decode cL_port 2 = .ok (.iconst 0, 1) := by decide +kernel
theorem dL_port_3 : decode cL_port 3 = .ok (.aload_n 0, 1) := by decide +kernel
theorem dL_port_4 : decode cL_port 4 = .ok (.iload_n 1, 1) := by decide +kernel
theorem dL_port_5 : decode cL_port 5 = .ok (.iload_n 2, 1) := by decide +kernel
theorem dL_port_6 : decode cL_port 6 = .ok (.iload_n 3, 1) := by decide +kernel
theorem dL_port_7 : decode cL_port 7 = .ok (.invokevirtual 57, 3) := by decide +kernel
theorem dL_port_10 : decode cL_port 10 = .ok (.i2l, 1) := by decide +kernel
theorem dL_port_11 : decode cL_port 11 = .ok (.lastore, 1) := by decide +kernel
theorem dL_port_12 : decode cL_port 12 = .ok (.goto 11, 3) := by decide +kernel
theorem dL_port_15 : decode cL_port 15 = .ok (.astore 5, 2) := by decide +kernel
theorem dL_port_17 : decode cL_port 17 = .ok (.iconst 1, 1) := by decide +kernel
theorem dL_port_18 : decode cL_port 18 = .ok (.ireturn, 1) := by decide +kernel
theorem dL_port_19 : decode cL_port 19 = .ok (.astore 5, 2) := by decide +kernel
theorem dL_port_21 : decode cL_port 21 = .ok (.iconst 2, 1) := by decide +kernel
theorem dL_port_22 : decode cL_port 22 = .ok (.ireturn, 1) := by decide +kernel
theorem dL_port_23 : decode cL_port 23 = .ok (.iconst 0, 1) := by decide +kernel
theorem dL_port_24 : decode cL_port 24 = .ok (.ireturn, 1) := by decide +kernel
theorem dL_entry_0 : decode cL_entry 0 = .ok (.aload_n 3, 1) := by decide +kernel
theorem dL_entry_1 : decode cL_entry 1 = .ok (.iconst 0, 1) := by decide +kernel
theorem dL_entry_2 : decode cL_entry 2 = .ok (.aload_n 0, 1) := by decide +kernel
theorem dL_entry_3 : decode cL_entry 3 = .ok (.iload_n 1, 1) := by decide +kernel
theorem dL_entry_4 : decode cL_entry 4 = .ok (.iload_n 2, 1) := by decide +kernel
theorem dL_entry_5 : decode cL_entry 5 = .ok (.invokevirtual 61, 3) := by decide +kernel
theorem dL_entry_8 : decode cL_entry 8 = .ok (.i2l, 1) := by decide +kernel
theorem dL_entry_9 : decode cL_entry 9 = .ok (.lastore, 1) := by decide +kernel
theorem dL_entry_10 : decode cL_entry 10 = .ok (.goto 7, 3) := by decide +kernel
theorem dL_entry_13 : decode cL_entry 13 = .ok (.astore 4, 2) := by decide +kernel
theorem dL_entry_15 : decode cL_entry 15 = .ok (.iconst 1, 1) := by decide +kernel
theorem dL_entry_16 : decode cL_entry 16 = .ok (.ireturn, 1) := by decide +kernel
theorem dL_entry_17 : decode cL_entry 17 = .ok (.iconst 0, 1) := by decide +kernel
theorem dL_entry_18 : decode cL_entry 18 = .ok (.ireturn, 1) := by decide +kernel
theorem dL_tenant_0 : decode cL_tenant 0 = .ok (.aload_n 3, 1) := by decide +kernel
theorem dL_tenant_1 : decode cL_tenant 1 = .ok (.iconst 0, 1) := by decide +kernel
theorem dL_tenant_2 : decode cL_tenant 2 = .ok (.aload_n 0, 1) := by decide +kernel
theorem dL_tenant_3 : decode cL_tenant 3 = .ok (.iload_n 1, 1) := by decide +kernel
theorem dL_tenant_4 : decode cL_tenant 4 = .ok (.iload_n 2, 1) := by decide +kernel
theorem dL_tenant_5 : decode cL_tenant 5 = .ok (.invokevirtual 64, 3) := by decide +kernel
theorem dL_tenant_8 : decode cL_tenant 8 = .ok (.i2l, 1) := by decide +kernel
theorem dL_tenant_9 : decode cL_tenant 9 = .ok (.lastore, 1) := by decide +kernel
theorem dL_tenant_10 : decode cL_tenant 10 = .ok (.goto 11, 3) := by decide +kernel
theorem dL_tenant_13 : decode cL_tenant 13 = .ok (.astore 4, 2) := by decide +kernel
theorem dL_tenant_15 : decode cL_tenant 15 = .ok (.iconst 1, 1) := by decide +kernel
theorem dL_tenant_16 : decode cL_tenant 16 = .ok (.ireturn, 1) := by decide +kernel
theorem dL_tenant_17 : decode cL_tenant 17 = .ok (.astore 4, 2) := by decide +kernel
theorem dL_tenant_19 : decode cL_tenant 19 = .ok (.iconst 2, 1) := by decide +kernel
theorem dL_tenant_20 : decode cL_tenant 20 = .ok (.ireturn, 1) := by decide +kernel
theorem dL_tenant_21 : decode cL_tenant 21 = .ok (.iconst 0, 1) := by decide +kernel
theorem dL_tenant_22 : decode cL_tenant 22 = .ok (.ireturn, 1) := by decide +kernel
theorem dL_bidOf_0 : decode cL_bidOf 0 = .ok (.aload_n 3, 1) := by decide +kernel
theorem dL_bidOf_1 : decode cL_bidOf 1 = .ok (.iconst 0, 1) := by decide +kernel
theorem dL_bidOf_2 : decode cL_bidOf 2 = .ok (.aload_n 0, 1) := by decide +kernel
theorem dL_bidOf_3 : decode cL_bidOf 3 = .ok (.iload_n 1, 1) := by decide +kernel
theorem dL_bidOf_4 : decode cL_bidOf 4 = .ok (.iload_n 2, 1) := by decide +kernel
theorem dL_bidOf_5 : decode cL_bidOf 5 = .ok (.invokevirtual 67, 3) := by decide +kernel
theorem dL_bidOf_8 : decode cL_bidOf 8 = .ok (.i2l, 1) := by decide +kernel
theorem dL_bidOf_9 : decode cL_bidOf 9 = .ok (.lastore, 1) := by decide +kernel
theorem dL_bidOf_10 : decode cL_bidOf 10 = .ok (.goto 7, 3) := by decide +kernel
theorem dL_bidOf_13 : decode cL_bidOf 13 = .ok (.astore 4, 2) := by decide +kernel
theorem dL_bidOf_15 : decode cL_bidOf 15 = .ok (.iconst 1, 1) := by decide +kernel
theorem dL_bidOf_16 : decode cL_bidOf 16 = .ok (.ireturn, 1) := by decide +kernel
theorem dL_bidOf_17 : decode cL_bidOf 17 = .ok (.iconst 0, 1) := by decide +kernel
theorem dL_bidOf_18 : decode cL_bidOf 18 = .ok (.ireturn, 1) := by decide +kernel
theorem dL_count_0 : decode cL_count 0 = .ok (.aload_n 2, 1) := by decide +kernel
theorem dL_count_1 : decode cL_count 1 = .ok (.iconst 0, 1) := by decide +kernel
theorem dL_count_2 : decode cL_count 2 = .ok (.aload_n 0, 1) := by decide +kernel
theorem dL_count_3 : decode cL_count 3 = .ok (.iload_n 1, 1) := by decide +kernel
theorem dL_count_4 : decode cL_count 4 = .ok (.invokevirtual 70, 3) := by decide +kernel
theorem dL_count_7 : decode cL_count 7 = .ok (.i2l, 1) := by decide +kernel
theorem dL_count_8 : decode cL_count 8 = .ok (.lastore, 1) := by decide +kernel
theorem dL_count_9 : decode cL_count 9 = .ok (.goto 6, 3) := by decide +kernel
theorem dL_count_12 : decode cL_count 12 = .ok (.astore_n 3, 1) := by decide +kernel
theorem dL_count_13 : decode cL_count 13 = .ok (.iconst 1, 1) := by decide +kernel
theorem dL_count_14 : decode cL_count 14 = .ok (.ireturn, 1) := by decide +kernel
theorem dL_count_15 : decode cL_count 15 = .ok (.iconst 0, 1) := by decide +kernel
theorem dL_count_16 : decode cL_count 16 = .ok (.ireturn, 1) := by decide +kernel
theorem dL_type_0 : decode cL_type 0 = .ok (.aload_n 2, 1) := by decide +kernel
theorem dL_type_1 : decode cL_type 1 = .ok (.iconst 0, 1) := by decide +kernel
theorem dL_type_2 : decode cL_type 2 = .ok (.aload_n 0, 1) := by decide +kernel
theorem dL_type_3 : decode cL_type 3 = .ok (.iload_n 1, 1) := by decide +kernel
theorem dL_type_4 : decode cL_type 4 = .ok (.invokevirtual 73, 3) := by decide +kernel
theorem dL_type_7 : decode cL_type 7 = .ok (.i2l, 1) := by decide +kernel
theorem dL_type_8 : decode cL_type 8 = .ok (.lastore, 1) := by decide +kernel
theorem dL_type_9 : decode cL_type 9 = .ok (.goto 9, 3) := by decide +kernel
theorem dL_type_12 : decode cL_type 12 = .ok (.astore_n 3, 1) := by decide +kernel
theorem dL_type_13 : decode cL_type 13 = .ok (.iconst 1, 1) := by decide +kernel
theorem dL_type_14 : decode cL_type 14 = .ok (.ireturn, 1) := by decide +kernel
theorem dL_type_15 : decode cL_type 15 = .ok (.astore_n 3, 1) := by decide +kernel
theorem dL_type_16 : decode cL_type 16 = .ok (.iconst 2, 1) := by decide +kernel
theorem dL_type_17 : decode cL_type 17 = .ok (.ireturn, 1) := by decide +kernel
theorem dL_type_18 : decode cL_type 18 = .ok (.iconst 0, 1) := by decide +kernel
theorem dL_type_19 : decode cL_type 19 = .ok (.ireturn, 1) := by decide +kernel
theorem dL_undo_0 : decode cL_undo 0 = .ok (.aload_n 1, 1) := by decide +kernel
theorem dL_undo_1 : decode cL_undo 1 = .ok (.iconst 0, 1) := by decide +kernel
theorem dL_undo_2 : decode cL_undo 2 = .ok (.aload_n 0, 1) := by decide +kernel
theorem dL_undo_3 : decode cL_undo 3 = .ok (.invokevirtual 76, 3) := by decide +kernel
theorem dL_undo_6 : decode cL_undo 6 = .ok (.i2l, 1) := by decide +kernel
theorem dL_undo_7 : decode cL_undo 7 = .ok (.lastore, 1) := by decide +kernel
theorem dL_undo_8 : decode cL_undo 8 = .ok (.goto 6, 3) := by decide +kernel
theorem dL_undo_11 : decode cL_undo 11 = .ok (.astore_n 2, 1) := by decide +kernel
theorem dL_undo_12 : decode cL_undo 12 = .ok (.iconst 1, 1) := by decide +kernel
theorem dL_undo_13 : decode cL_undo 13 = .ok (.ireturn, 1) := by decide +kernel
theorem dL_undo_14 : decode cL_undo 14 = .ok (.iconst 0, 1) := by decide +kernel
theorem dL_undo_15 : decode cL_undo 15 = .ok (.ireturn, 1) := by decide +kernel
theorem dL_law_0 : decode cL_law 0 = .ok (.new 8, 3) := by decide +kernel
theorem dL_law_3 : decode cL_law 3 = .ok (.dup, 1) := by decide +kernel
theorem dL_law_4 : decode cL_law 4 = .ok (.invokespecial 80, 3) := by decide +kernel
theorem dL_law_7 : decode cL_law 7 = .ok (.astore_n 1, 1) := by decide +kernel
theorem dL_law_8 : decode cL_law 8 = .ok (.new 81, 3) := by decide +kernel
theorem dL_law_11 : decode cL_law 11 = .ok (.dup, 1) := by decide +kernel
theorem dL_law_12 : decode cL_law 12 = .ok (.invokespecial 83, 3) := by decide +kernel
theorem dL_law_15 : decode cL_law 15 = .ok (.astore_n 2, 1) := by decide +kernel
theorem dL_law_16 : decode cL_law 16 = .ok (.iconst 1, 1) := by decide +kernel
theorem dL_law_17 : decode cL_law 17 = .ok (.newarray .long, 2) := by decide +kernel
theorem dL_law_19 : decode cL_law 19 = .ok (.astore_n 3, 1) := by decide +kernel
theorem dL_law_20 : decode cL_law 20 = .ok (.iconst 0, 1) := by decide +kernel
theorem dL_law_21 : decode cL_law 21 = .ok (.istore 4, 2) := by decide +kernel
theorem dL_law_23 : decode cL_law 23 = .ok (.iload 4, 2) := by decide +kernel
theorem dL_law_25 : decode cL_law 25 = .ok (.aload_n 0, 1) := by decide +kernel
theorem dL_law_26 : decode cL_law 26 = .ok (.arraylength, 1) := by decide +kernel
theorem dL_law_27 : decode cL_law 27 = .ok (.iconst 4, 1) := by decide +kernel
theorem dL_law_28 : decode cL_law 28 = .ok (.isub, 1) := by decide +kernel
theorem dL_law_29 : decode cL_law 29 = .ok (.if_icmp .gt 1540, 3) := by decide +kernel
theorem dL_law_32 : decode cL_law 32 = .ok (.aload_n 0, 1) := by decide +kernel
theorem dL_law_33 : decode cL_law 33 = .ok (.iload 4, 2) := by decide +kernel
theorem dL_law_35 : decode cL_law 35 = .ok (.iaload, 1) := by decide +kernel
theorem dL_law_36 : decode cL_law 36 = .ok (.bipush 31, 2) := by decide +kernel
theorem dL_law_38 : decode cL_law 38 = .ok (.iand, 1) := by decide +kernel
theorem dL_law_39 : decode cL_law 39 = .ok (.tableswitch 1524 0 25 #[117, 173, 253, 321, 401, 457, 513, 581, 661, 729, 785, 798, 866, 934, 947, 1015, 1111, 1179, 1247, 1315, 1371, 1384, 1440, 1453, 1466, 1510], 117) := by decide +kernel
theorem dL_law_156 : decode cL_law 156 = .ok (.aload_n 1, 1) := by decide +kernel
theorem dL_law_157 : decode cL_law 157 = .ok (.aload_n 0, 1) := by decide +kernel
theorem dL_law_158 : decode cL_law 158 = .ok (.iload 4, 2) := by decide +kernel
theorem dL_law_160 : decode cL_law 160 = .ok (.iconst 1, 1) := by decide +kernel
theorem dL_law_161 : decode cL_law 161 = .ok (.iadd, 1) := by decide +kernel
theorem dL_law_162 : decode cL_law 162 = .ok (.iaload, 1) := by decide +kernel
theorem dL_law_163 : decode cL_law 163 = .ok (.aload_n 3, 1) := by decide +kernel
theorem dL_law_164 : decode cL_law 164 = .ok (.invokestatic 84, 3) := by decide +kernel
theorem dL_law_167 : decode cL_law 167 = .ok (.istore 5, 2) := by decide +kernel
theorem dL_law_169 : decode cL_law 169 = .ok (.aload_n 2, 1) := by decide +kernel
theorem dL_law_170 : decode cL_law 170 = .ok (.aload_n 0, 1) := by decide +kernel
theorem dL_law_171 : decode cL_law 171 = .ok (.iload 4, 2) := by decide +kernel
theorem dL_law_173 : decode cL_law 173 = .ok (.iconst 1, 1) := by decide +kernel
theorem dL_law_174 : decode cL_law 174 = .ok (.iadd, 1) := by decide +kernel
theorem dL_law_175 : decode cL_law 175 = .ok (.iaload, 1) := by decide +kernel
theorem dL_law_176 : decode cL_law 176 = .ok (.invokevirtual 89, 3) := by decide +kernel
theorem dL_law_179 : decode cL_law 179 = .ok (.istore 6, 2) := by decide +kernel
theorem dL_law_181 : decode cL_law 181 = .ok (.aload_n 2, 1) := by decide +kernel
theorem dL_law_182 : decode cL_law 182 = .ok (.invokevirtual 90, 3) := by decide +kernel
theorem dL_law_185 : decode cL_law 185 = .ok (.iload 5, 2) := by decide +kernel
theorem dL_law_187 : decode cL_law 187 = .ok (.if_icmp .eq 5, 3) := by decide +kernel
theorem dL_law_190 : decode cL_law 190 = .ok (.iconst 0, 1) := by decide +kernel
theorem dL_law_191 : decode cL_law 191 = .ok (.ireturn, 1) := by decide +kernel
theorem dL_law_192 : decode cL_law 192 = .ok (.iload 5, 2) := by decide +kernel
theorem dL_law_194 : decode cL_law 194 = .ok (.ifCond .ne 15, 3) := by decide +kernel
theorem dL_law_197 : decode cL_law 197 = .ok (.aload_n 3, 1) := by decide +kernel
theorem dL_law_198 : decode cL_law 198 = .ok (.iconst 0, 1) := by decide +kernel
theorem dL_law_199 : decode cL_law 199 = .ok (.laload, 1) := by decide +kernel
theorem dL_law_200 : decode cL_law 200 = .ok (.iload 6, 2) := by decide +kernel
theorem dL_law_202 : decode cL_law 202 = .ok (.i2l, 1) := by decide +kernel
theorem dL_law_203 : decode cL_law 203 = .ok (.lcmp, 1) := by decide +kernel
theorem dL_law_204 : decode cL_law 204 = .ok (.ifCond .eq 5, 3) := by decide +kernel
theorem dL_law_207 : decode cL_law 207 = .ok (.iconst 0, 1) := by decide +kernel
theorem dL_law_208 : decode cL_law 208 = .ok (.ireturn, 1) := by decide +kernel
theorem dL_law_209 : decode cL_law 209 = .ok (.goto 1354, 3) := by decide +kernel
theorem dL_law_212 : decode cL_law 212 = .ok (.aload_n 1, 1) := by decide +kernel
theorem dL_law_213 : decode cL_law 213 = .ok (.aload_n 0, 1) := by decide +kernel
theorem dL_law_214 : decode cL_law 214 = .ok (.iload 4, 2) := by decide +kernel
theorem dL_law_216 : decode cL_law 216 = .ok (.iconst 1, 1) := by decide +kernel
theorem dL_law_217 : decode cL_law 217 = .ok (.iadd, 1) := by decide +kernel
theorem dL_law_218 : decode cL_law 218 = .ok (.iaload, 1) := by decide +kernel
theorem dL_law_219 : decode cL_law 219 = .ok (.aload_n 0, 1) := by decide +kernel
theorem dL_law_220 : decode cL_law 220 = .ok (.iload 4, 2) := by decide +kernel
theorem dL_law_222 : decode cL_law 222 = .ok (.iconst 2, 1) := by decide +kernel
theorem dL_law_223 : decode cL_law 223 = .ok (.iadd, 1) := by decide +kernel
theorem dL_law_224 : decode cL_law 224 = .ok (.iaload, 1) := by decide +kernel
theorem dL_law_225 : decode cL_law 225 = .ok (.aload_n 0, 1) := by decide +kernel
theorem dL_law_226 : decode cL_law 226 = .ok (.iload 4, 2) := by decide +kernel
theorem dL_law_228 : decode cL_law 228 = .ok (.iconst 3, 1) := by decide +kernel
theorem dL_law_229 : decode cL_law 229 = .ok (.iadd, 1) := by decide +kernel
theorem dL_law_230 : decode cL_law 230 = .ok (.iaload, 1) := by decide +kernel
theorem dL_law_231 : decode cL_law 231 = .ok (.aload_n 3, 1) := by decide +kernel
theorem dL_law_232 : decode cL_law 232 = .ok (.invokestatic 93, 3) := by decide +kernel
theorem dL_law_235 : decode cL_law 235 = .ok (.istore 5, 2) := by decide +kernel
theorem dL_law_237 : decode cL_law 237 = .ok (.aload_n 2, 1) := by decide +kernel
theorem dL_law_238 : decode cL_law 238 = .ok (.aload_n 0, 1) := by decide +kernel
theorem dL_law_239 : decode cL_law 239 = .ok (.iload 4, 2) := by decide +kernel
theorem dL_law_241 : decode cL_law 241 = .ok (.iconst 1, 1) := by decide +kernel
theorem dL_law_242 : decode cL_law 242 = .ok (.iadd, 1) := by decide +kernel
theorem dL_law_243 : decode cL_law 243 = .ok (.iaload, 1) := by decide +kernel
theorem dL_law_244 : decode cL_law 244 = .ok (.aload_n 0, 1) := by decide +kernel
theorem dL_law_245 : decode cL_law 245 = .ok (.iload 4, 2) := by decide +kernel
theorem dL_law_247 : decode cL_law 247 = .ok (.iconst 2, 1) := by decide +kernel
theorem dL_law_248 : decode cL_law 248 = .ok (.iadd, 1) := by decide +kernel
theorem dL_law_249 : decode cL_law 249 = .ok (.iaload, 1) := by decide +kernel
theorem dL_law_250 : decode cL_law 250 = .ok (.aload_n 0, 1) := by decide +kernel
theorem dL_law_251 : decode cL_law 251 = .ok (.iload 4, 2) := by decide +kernel
theorem dL_law_253 : decode cL_law 253 = .ok (.iconst 3, 1) := by decide +kernel
theorem dL_law_254 : decode cL_law 254 = .ok (.iadd, 1) := by decide +kernel
theorem dL_law_255 : decode cL_law 255 = .ok (.iaload, 1) := by decide +kernel
theorem dL_law_256 : decode cL_law 256 = .ok (.invokevirtual 96, 3) := by decide +kernel
theorem dL_law_259 : decode cL_law 259 = .ok (.istore 6, 2) := by decide +kernel
theorem dL_law_261 : decode cL_law 261 = .ok (.aload_n 2, 1) := by decide +kernel
