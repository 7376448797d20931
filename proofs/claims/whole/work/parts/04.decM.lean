/-! decode rows, printed by wip/whole/tools/names.py -/
theorem dX2_init_0 : decode cX2_init 0 = .ok (.aload_n 0, 1) := by decide +kernel
theorem dX2_init_1 : decode cX2_init 1 = .ok (.invokespecial 1, 3) := by decide +kernel
theorem dX2_init_4 : decode cX2_init 4 = .ok (.aload_n 0, 1) := by decide +kernel
theorem dX2_init_5 : decode cX2_init 5 = .ok (.sipush 300, 3) := by decide +kernel
theorem dX2_init_8 : decode cX2_init 8 = .ok (.newarray .long, 2) := by decide +kernel
theorem dX2_init_10 : decode cX2_init 10 = .ok (.putfield 7, 3) := by decide +kernel
theorem dX2_init_13 : decode cX2_init 13 = .ok (.aload_n 0, 1) := by decide +kernel
theorem dX2_init_14 : decode cX2_init 14 = .ok (.sipush 300, 3) := by decide +kernel
theorem dX2_init_17 : decode cX2_init 17 = .ok (.newarray .long, 2) := by decide +kernel
theorem dX2_init_19 : decode cX2_init 19 = .ok (.putfield 13, 3) := by decide +kernel
theorem dX2_init_22 : decode cX2_init 22 = .ok (.aload_n 0, 1) := by decide +kernel
theorem dX2_init_23 : decode cX2_init 23 = .ok (.sipush 200, 3) := by decide +kernel
theorem dX2_init_26 : decode cX2_init 26 = .ok (.newarray .boolean, 2) := by decide +kernel
theorem dX2_init_28 : decode cX2_init 28 = .ok (.putfield 16, 3) := by decide +kernel
theorem dX2_init_31 : decode cX2_init 31 = .ok (.aload_n 0, 1) := by decide +kernel
theorem dX2_init_32 : decode cX2_init 32 = .ok (.sipush 200, 3) := by decide +kernel
theorem dX2_init_35 : decode cX2_init 35 = .ok (.newarray .boolean, 2) := by decide +kernel
theorem dX2_init_37 : decode cX2_init 37 = .ok (.putfield 20, 3) := by decide +kernel
theorem dX2_init_40 : decode cX2_init 40 = .ok (.aload_n 0, 1) := by decide +kernel
theorem dX2_init_41 : decode cX2_init 41 = .ok (.sipush 200, 3) := by decide +kernel
theorem dX2_init_44 : decode cX2_init 44 = .ok (.newarray .int, 2) := by decide +kernel
theorem dX2_init_46 : decode cX2_init 46 = .ok (.putfield 23, 3) := by decide +kernel
theorem dX2_init_49 : decode cX2_init 49 = .ok (.aload_n 0, 1) := by decide +kernel
theorem dX2_init_50 : decode cX2_init 50 = .ok (.sipush 3200, 3) := by decide +kernel
theorem dX2_init_53 : decode cX2_init 53 = .ok (.newarray .int, 2) := by decide +kernel
theorem dX2_init_55 : decode cX2_init 55 = .ok (.putfield 27, 3) := by decide +kernel
theorem dX2_init_58 : decode cX2_init 58 = .ok (.aload_n 0, 1) := by decide +kernel
theorem dX2_init_59 : decode cX2_init 59 = .ok (.sipush 3200, 3) := by decide +kernel
theorem dX2_init_62 : decode cX2_init 62 = .ok (.newarray .long, 2) := by decide +kernel
theorem dX2_init_64 : decode cX2_init 64 = .ok (.putfield 30, 3) := by decide +kernel
theorem dX2_init_67 : decode cX2_init 67 = .ok (.return_, 1) := by decide +kernel
theorem dX2_isPosition_0 : decode cX2_isPosition 0 = .ok (.iload_n 0, 1) := by decide +kernel
theorem dX2_isPosition_1 : decode cX2_isPosition 1 = .ok (.ifCond .lt 14, 3) := by decide +kernel
theorem dX2_isPosition_4 : decode cX2_isPosition 4 = .ok (.iload_n 0, 1) := by decide +kernel
theorem dX2_isPosition_5 : decode cX2_isPosition 5 = .ok (.sipush 300, 3) := by decide +kernel
theorem dX2_isPosition_8 : decode cX2_isPosition 8 = .ok (.if_icmp .ge 7, 3) := by decide +kernel
theorem dX2_isPosition_11 : decode cX2_isPosition 11 = .ok (.iconst 1, 1) := by decide +kernel
theorem dX2_isPosition_12 : decode cX2_isPosition 12 = .ok (.goto 4, 3) := by decide +kernel
theorem dX2_isPosition_15 : decode cX2_isPosition 15 = .ok (.iconst 0, 1) := by decide +kernel
theorem dX2_isPosition_16 : decode cX2_isPosition 16 = .ok (.ireturn, 1) := by decide +kernel
theorem dX2_isValue_0 : decode cX2_isValue 0 = .ok (.lload_n 0, 1) := by decide +kernel
theorem dX2_isValue_1 : decode cX2_isValue 1 = .ok (.ldc2_w 33, 3) := by decide +kernel
theorem dX2_isValue_4 : decode cX2_isValue 4 = .ok (.lcmp, 1) := by decide +kernel
theorem dX2_isValue_5 : decode cX2_isValue 5 = .ok (.ifCond .lt 15, 3) := by decide +kernel
theorem dX2_isValue_8 : decode cX2_isValue 8 = .ok (.lload_n 0, 1) := by decide +kernel
theorem dX2_isValue_9 : decode cX2_isValue 9 = .ok (.ldc2_w 35, 3) := by decide +kernel
theorem dX2_isValue_12 : decode cX2_isValue 12 = .ok (.lcmp, 1) := by decide +kernel
theorem dX2_isValue_13 : decode cX2_isValue 13 = .ok (.ifCond .gt 7, 3) := by decide +kernel
theorem dX2_isValue_16 : decode cX2_isValue 16 = .ok (.iconst 1, 1) := by decide +kernel
theorem dX2_isValue_17 : decode cX2_isValue 17 = .ok (.goto 4, 3) := by decide +kernel
theorem dX2_isValue_20 : decode cX2_isValue 20 = .ok (.iconst 0, 1) := by decide +kernel
theorem dX2_isValue_21 : decode cX2_isValue 21 = .ok (.ireturn, 1) := by decide +kernel
theorem dX2_place_0 : decode cX2_place 0 = .ok (.iload_n 1, 1) := by decide +kernel
theorem dX2_place_1 : decode cX2_place 1 = .ok (.invokestatic 37, 3) := by decide +kernel
theorem dX2_place_4 : decode cX2_place 4 = .ok (.ifCond .eq 25, 3) := by decide +kernel
theorem dX2_place_7 : decode cX2_place 7 = .ok (.lload_n 2, 1) := by decide +kernel
theorem dX2_place_8 : decode cX2_place 8 = .ok (.invokestatic 41, 3) := by decide +kernel
theorem dX2_place_11 : decode cX2_place 11 = .ok (.ifCond .eq 18, 3) := by decide +kernel
theorem dX2_place_14 : decode cX2_place 14 = .ok (.lload 4, 2) := by decide +kernel
theorem dX2_place_16 : decode cX2_place 16 = .ok (.invokestatic 41, 3) := by decide +kernel
theorem dX2_place_19 : decode cX2_place 19 = .ok (.ifCond .eq 10, 3) := by decide +kernel
theorem dX2_place_22 : decode cX2_place 22 = .ok (.lload_n 2, 1) := by decide +kernel
theorem dX2_place_23 : decode cX2_place 23 = .ok (.lload 4, 2) := by decide +kernel
theorem dX2_place_25 : decode cX2_place 25 = .ok (.lcmp, 1) := by decide +kernel
theorem dX2_place_26 : decode cX2_place 26 = .ok (.ifCond .ge 5, 3) := by decide +kernel
theorem dX2_place_29 : decode cX2_place 29 = .ok (.iconst 0, 1) := by decide +kernel
theorem dX2_place_30 : decode cX2_place 30 = .ok (.ireturn, 1) := by decide +kernel
theorem dX2_place_31 : decode cX2_place 31 = .ok (.aload_n 0, 1) := by decide +kernel
theorem dX2_place_32 : decode cX2_place 32 = .ok (.getfield 7, 3) := by decide +kernel
theorem dX2_place_35 : decode cX2_place 35 = .ok (.iload_n 1, 1) := by decide +kernel
theorem dX2_place_36 : decode cX2_place 36 = .ok (.lload_n 2, 1) := by decide +kernel
theorem dX2_place_37 : decode cX2_place 37 = .ok (.lastore, 1) := by decide +kernel
theorem dX2_place_38 : decode cX2_place 38 = .ok (.aload_n 0, 1) := by decide +kernel
theorem dX2_place_39 : decode cX2_place 39 = .ok (.getfield 13, 3) := by decide +kernel
theorem dX2_place_42 : decode cX2_place 42 = .ok (.iload_n 1, 1) := by decide +kernel
theorem dX2_place_43 : decode cX2_place 43 = .ok (.lload 4, 2) := by decide +kernel
theorem dX2_place_45 : decode cX2_place 45 = .ok (.lastore, 1) := by decide +kernel
theorem dX2_place_46 : decode cX2_place 46 = .ok (.iconst 1, 1) := by decide +kernel
theorem dX2_place_47 : decode cX2_place 47 = .ok (.ireturn, 1) := by decide +kernel
theorem dX2_item_0 : decode cX2_item 0 = .ok (.aload_n 0, 1) := by decide +kernel
theorem dX2_item_1 : decode cX2_item 1 = .ok (.getfield 45, 3) := by decide +kernel
theorem dX2_item_4 : decode cX2_item 4 = .ok (.sipush 200, 3) := by decide +kernel
theorem dX2_item_7 : decode cX2_item 7 = .ok (.if_icmp .ne 5, 3) := by decide +kernel
theorem dX2_item_10 : decode cX2_item 10 = .ok (.iconst (-1), 1) := by decide +kernel
theorem dX2_item_11 : decode cX2_item 11 = .ok (.ireturn, 1) := by decide +kernel
theorem dX2_item_12 : decode cX2_item 12 = .ok (.aload_n 0, 1) := by decide +kernel
theorem dX2_item_13 : decode cX2_item 13 = .ok (.getfield 16, 3) := by decide +kernel
theorem dX2_item_16 : decode cX2_item 16 = .ok (.aload_n 0, 1) := by decide +kernel
theorem dX2_item_17 : decode cX2_item 17 = .ok (.getfield 45, 3) := by decide +kernel
theorem dX2_item_20 : decode cX2_item 20 = .ok (.iconst 1, 1) := by decide +kernel
theorem dX2_item_21 : decode cX2_item 21 = .ok (.bastore, 1) := by decide +kernel
theorem dX2_item_22 : decode cX2_item 22 = .ok (.aload_n 0, 1) := by decide +kernel
theorem dX2_item_23 : decode cX2_item 23 = .ok (.aload_n 0, 1) := by decide +kernel
theorem dX2_item_24 : decode cX2_item 24 = .ok (.getfield 45, 3) := by decide +kernel
theorem dX2_item_27 : decode cX2_item 27 = .ok (.iconst 1, 1) := by decide +kernel
theorem dX2_item_28 : decode cX2_item 28 = .ok (.iadd, 1) := by decide +kernel
theorem dX2_item_29 : decode cX2_item 29 = .ok (.putfield 45, 3) := by decide +kernel
theorem dX2_item_32 : decode cX2_item 32 = .ok (.aload_n 0, 1) := by decide +kernel
theorem dX2_item_33 : decode cX2_item 33 = .ok (.getfield 45, 3) := by decide +kernel
theorem dX2_item_36 : decode cX2_item 36 = .ok (.iconst 1, 1) := by decide +kernel
theorem dX2_item_37 : decode cX2_item 37 = .ok (.isub, 1) := by decide +kernel
theorem dX2_item_38 : decode cX2_item 38 = .ok (.ireturn, 1) := by decide +kernel
theorem dX2_isThere_0 : decode cX2_isThere 0 = .ok (.iload_n 1, 1) := by decide +kernel
theorem dX2_isThere_1 : decode cX2_isThere 1 = .ok (.ifCond .lt 24, 3) := by decide +kernel
theorem dX2_isThere_4 : decode cX2_isThere 4 = .ok (.iload_n 1, 1) := by decide +kernel
theorem dX2_isThere_5 : decode cX2_isThere 5 = .ok (.aload_n 0, 1) := by decide +kernel
theorem dX2_isThere_6 : decode cX2_isThere 6 = .ok (.getfield 45, 3) := by decide +kernel
theorem dX2_isThere_9 : decode cX2_isThere 9 = .ok (.if_icmp .ge 16, 3) := by decide +kernel
theorem dX2_isThere_12 : decode cX2_isThere 12 = .ok (.aload_n 0, 1) := by decide +kernel
theorem dX2_isThere_13 : decode cX2_isThere 13 = .ok (.getfield 16, 3) := by decide +kernel
theorem dX2_isThere_16 : decode cX2_isThere 16 = .ok (.iload_n 1, 1) := by decide +kernel
theorem dX2_isThere_17 : decode cX2_isThere 17 = .ok (.baload, 1) := by decide +kernel
theorem dX2_isThere_18 : decode cX2_isThere 18 = .ok (.ifCond .eq 7, 3) := by decide +kernel
theorem dX2_isThere_21 : decode cX2_isThere 21 = .ok (.iconst 1, 1) := by decide +kernel
theorem dX2_isThere_22 : decode cX2_isThere 22 = .ok (.goto 4, 3) := by decide +kernel
theorem dX2_isThere_25 : decode cX2_isThere 25 = .ok (.iconst 0, 1) := by decide +kernel
theorem dX2_isThere_26 : decode cX2_isThere 26 = .ok (.ireturn, 1) := by decide +kernel
theorem dX2_find_0 : decode cX2_find 0 = .ok (.bipush 16, 2) := by decide +kernel
theorem dX2_find_2 : decode cX2_find 2 = .ok (.iload_n 1, 1) := by decide +kernel
theorem dX2_find_3 : decode cX2_find 3 = .ok (.imul, 1) := by decide +kernel
theorem dX2_find_4 : decode cX2_find 4 = .ok (.istore_n 3, 1) := by decide +kernel
theorem dX2_find_5 : decode cX2_find 5 = .ok (.iload_n 3, 1) := by decide +kernel
theorem dX2_find_6 : decode cX2_find 6 = .ok (.bipush 16, 2) := by decide +kernel
theorem dX2_find_8 : decode cX2_find 8 = .ok (.iload_n 1, 1) := by decide +kernel
theorem dX2_find_9 : decode cX2_find 9 = .ok (.imul, 1) := by decide +kernel
theorem dX2_find_10 : decode cX2_find 10 = .ok (.aload_n 0, 1) := by decide +kernel
theorem dX2_find_11 : decode cX2_find 11 = .ok (.getfield 23, 3) := by decide +kernel
theorem dX2_find_14 : decode cX2_find 14 = .ok (.iload_n 1, 1) := by decide +kernel
theorem dX2_find_15 : decode cX2_find 15 = .ok (.iaload, 1) := by decide +kernel
theorem dX2_find_16 : decode cX2_find 16 = .ok (.iadd, 1) := by decide +kernel
theorem dX2_find_17 : decode cX2_find 17 = .ok (.if_icmp .ge 20, 3) := by decide +kernel
theorem dX2_find_20 : decode cX2_find 20 = .ok (.aload_n 0, 1) := by decide +kernel
theorem dX2_find_21 : decode cX2_find 21 = .ok (.getfield 27, 3) := by decide +kernel
theorem dX2_find_24 : decode cX2_find 24 = .ok (.iload_n 3, 1) := by decide +kernel
theorem dX2_find_25 : decode cX2_find 25 = .ok (.iaload, 1) := by decide +kernel
theorem dX2_find_26 : decode cX2_find 26 = .ok (.iload_n 2, 1) := by decide +kernel
theorem dX2_find_27 : decode cX2_find 27 = .ok (.if_icmp .eq 10, 3) := by decide +kernel
theorem dX2_find_30 : decode cX2_find 30 = .ok (.iload_n 3, 1) := by decide +kernel
theorem dX2_find_31 : decode cX2_find 31 = .ok (.iconst 1, 1) := by decide +kernel
theorem dX2_find_32 : decode cX2_find 32 = .ok (.iadd, 1) := by decide +kernel
theorem dX2_find_33 : decode cX2_find 33 = .ok (.istore_n 3, 1) := by decide +kernel
theorem dX2_find_34 : decode cX2_find 34 = .ok (.goto (-29), 3) := by decide +kernel
theorem dX2_find_37 : decode cX2_find 37 = .ok (.iload_n 3, 1) := by decide +kernel
theorem dX2_find_38 : decode cX2_find 38 = .ok (.ireturn, 1) := by decide +kernel
theorem dX2_netAt_0 : decode cX2_netAt 0 = .ok (.aload_n 0, 1) := by decide +kernel
theorem dX2_netAt_1 : decode cX2_netAt 1 = .ok (.iload_n 1, 1) := by decide +kernel
theorem dX2_netAt_2 : decode cX2_netAt 2 = .ok (.iload_n 2, 1) := by decide +kernel
theorem dX2_netAt_3 : decode cX2_netAt 3 = .ok (.invokevirtual 49, 3) := by decide +kernel
theorem dX2_netAt_6 : decode cX2_netAt 6 = .ok (.istore_n 3, 1) := by decide +kernel
theorem dX2_netAt_7 : decode cX2_netAt 7 = .ok (.iload_n 3, 1) := by decide +kernel
theorem dX2_netAt_8 : decode cX2_netAt 8 = .ok (.bipush 16, 2) := by decide +kernel
theorem dX2_netAt_10 : decode cX2_netAt 10 = .ok (.iload_n 1, 1) := by decide +kernel
theorem dX2_netAt_11 : decode cX2_netAt 11 = .ok (.imul, 1) := by decide +kernel
theorem dX2_netAt_12 : decode cX2_netAt 12 = .ok (.aload_n 0, 1) := by decide +kernel
theorem dX2_netAt_13 : decode cX2_netAt 13 = .ok (.getfield 23, 3) := by decide +kernel
theorem dX2_netAt_16 : decode cX2_netAt 16 = .ok (.iload_n 1, 1) := by decide +kernel
theorem dX2_netAt_17 : decode cX2_netAt 17 = .ok (.iaload, 1) := by decide +kernel
theorem dX2_netAt_18 : decode cX2_netAt 18 = .ok (.iadd, 1) := by decide +kernel
theorem dX2_netAt_19 : decode cX2_netAt 19 = .ok (.if_icmp .ge 12, 3) := by decide +kernel
theorem dX2_netAt_22 : decode cX2_netAt 22 = .ok (.aload_n 0, 1) := by decide +kernel
theorem dX2_netAt_23 : decode cX2_netAt 23 = .ok (.getfield 30, 3) := by decide +kernel
theorem dX2_netAt_26 : decode cX2_netAt 26 = .ok (.iload_n 3, 1) := by decide +kernel
theorem dX2_netAt_27 : decode cX2_netAt 27 = .ok (.laload, 1) := by decide +kernel
theorem dX2_netAt_28 : decode cX2_netAt 28 = .ok (.goto 4, 3) := by decide +kernel
theorem dX2_netAt_31 : decode cX2_netAt 31 = .ok (.lconst 0, 1) := by decide +kernel
theorem dX2_netAt_32 : decode cX2_netAt 32 = .ok (.lreturn, 1) := by decide +kernel
theorem dX2_net_0 : decode cX2_net 0 = .ok (.aload_n 0, 1) := by decide +kernel
theorem dX2_net_1 : decode cX2_net 1 = .ok (.iload_n 1, 1) := by decide +kernel
theorem dX2_net_2 : decode cX2_net 2 = .ok (.invokevirtual 53, 3) := by decide +kernel
theorem dX2_net_5 : decode cX2_net 5 = .ok (.ifCond .eq 10, 3) := by decide +kernel
theorem dX2_net_8 : decode cX2_net 8 = .ok (.iload_n 2, 1) := by decide +kernel
theorem dX2_net_9 : decode cX2_net 9 = .ok (.invokestatic 37, 3) := by decide +kernel
theorem dX2_net_12 : decode cX2_net 12 = .ok (.ifCond .ne 5, 3) := by decide +kernel
theorem dX2_net_15 : decode cX2_net 15 = .ok (.iconst 0, 1) := by decide +kernel
theorem dX2_net_16 : decode cX2_net 16 = .ok (.ireturn, 1) := by decide +kernel
theorem dX2_net_17 : decode cX2_net 17 = .ok (.lload_n 3, 1) := by decide +kernel
theorem dX2_net_18 : decode cX2_net 18 = .ok (.ldc2_w 56, 3) := by decide +kernel
theorem dX2_net_21 : decode cX2_net 21 = .ok (.lcmp, 1) := by decide +kernel
theorem dX2_net_22 : decode cX2_net 22 = .ok (.ifCond .gt 11, 3) := by decide +kernel
theorem dX2_net_25 : decode cX2_net 25 = .ok (.lload_n 3, 1) := by decide +kernel
theorem dX2_net_26 : decode cX2_net 26 = .ok (.ldc2_w 58, 3) := by decide +kernel
theorem dX2_net_29 : decode cX2_net 29 = .ok (.lcmp, 1) := by decide +kernel
theorem dX2_net_30 : decode cX2_net 30 = .ok (.ifCond .ge 5, 3) := by decide +kernel
theorem dX2_net_33 : decode cX2_net 33 = .ok (.iconst 0, 1) := by decide +kernel
theorem dX2_net_34 : decode cX2_net 34 = .ok (.ireturn, 1) := by decide +kernel
theorem dX2_net_35 : decode cX2_net 35 = .ok (.aload_n 0, 1) := by decide +kernel
theorem dX2_net_36 : decode cX2_net 36 = .ok (.iload_n 1, 1) := by decide +kernel
theorem dX2_net_37 : decode cX2_net 37 = .ok (.iload_n 2, 1) := by decide +kernel
theorem dX2_net_38 : decode cX2_net 38 = .ok (.invokevirtual 60, 3) := by decide +kernel
theorem dX2_net_41 : decode cX2_net 41 = .ok (.lload_n 3, 1) := by decide +kernel
theorem dX2_net_42 : decode cX2_net 42 = .ok (.ladd, 1) := by decide +kernel
theorem dX2_net_43 : decode cX2_net 43 = .ok (.lstore 5, 2) := by decide +kernel
theorem dX2_net_45 : decode cX2_net 45 = .ok (.lload 5, 2) := by decide +kernel
theorem dX2_net_47 : decode cX2_net 47 = .ok (.ldc2_w 64, 3) := by decide +kernel
theorem dX2_net_50 : decode cX2_net 50 = .ok (.lcmp, 1) := by decide +kernel
theorem dX2_net_51 : decode cX2_net 51 = .ok (.ifCond .gt 12, 3) := by decide +kernel
theorem dX2_net_54 : decode cX2_net 54 = .ok (.lload 5, 2) := by decide +kernel
theorem dX2_net_56 : decode cX2_net 56 = .ok (.ldc2_w 66, 3) := by decide +kernel
theorem dX2_net_59 : decode cX2_net 59 = .ok (.lcmp, 1) := by decide +kernel
theorem dX2_net_60 : decode cX2_net 60 = .ok (.ifCond .ge 5, 3) := by decide +kernel
theorem dX2_net_63 : decode cX2_net 63 = .ok (.iconst 0, 1) := by decide +kernel
theorem dX2_net_64 : decode cX2_net 64 = .ok (.ireturn, 1) := by decide +kernel
theorem dX2_net_65 : decode cX2_net 65 = .ok (.aload_n 0, 1) := by decide +kernel
theorem dX2_net_66 : decode cX2_net 66 = .ok (.iload_n 1, 1) := by decide +kernel
theorem dX2_net_67 : decode cX2_net 67 = .ok (.iload_n 2, 1) := by decide +kernel
theorem dX2_net_68 : decode cX2_net 68 = .ok (.invokevirtual 49, 3) := by decide +kernel
theorem dX2_net_71 : decode cX2_net 71 = .ok (.istore 7, 2) := by decide +kernel
theorem dX2_net_73 : decode cX2_net 73 = .ok (.bipush 16, 2) := by decide +kernel
theorem dX2_net_75 : decode cX2_net 75 = .ok (.iload_n 1, 1) := by decide +kernel
theorem dX2_net_76 : decode cX2_net 76 = .ok (.imul, 1) := by decide +kernel
theorem dX2_net_77 : decode cX2_net 77 = .ok (.aload_n 0, 1) := by decide +kernel
theorem dX2_net_78 : decode cX2_net 78 = .ok (.getfield 23, 3) := by decide +kernel
theorem dX2_net_81 : decode cX2_net 81 = .ok (.iload_n 1, 1) := by decide +kernel
theorem dX2_net_82 : decode cX2_net 82 = .ok (.iaload, 1) := by decide +kernel
theorem dX2_net_83 : decode cX2_net 83 = .ok (.iadd, 1) := by decide +kernel
theorem dX2_net_84 : decode cX2_net 84 = .ok (.istore 8, 2) := by decide +kernel
theorem dX2_net_86 : decode cX2_net 86 = .ok (.iload 7, 2) := by decide +kernel
theorem dX2_net_88 : decode cX2_net 88 = .ok (.iload 8, 2) := by decide +kernel
theorem dX2_net_90 : decode cX2_net 90 = .ok (.if_icmp .ge 58, 3) := by decide +kernel
theorem dX2_net_93 : decode cX2_net 93 = .ok (.lload 5, 2) := by decide +kernel
theorem dX2_net_95 : decode cX2_net 95 = .ok (.lconst 0, 1) := by decide +kernel
theorem dX2_net_96 : decode cX2_net 96 = .ok (.lcmp, 1) := by decide +kernel
theorem dX2_net_97 : decode cX2_net 97 = .ok (.ifCond .ne 51, 3) := by decide +kernel
theorem dX2_net_100 : decode cX2_net 100 = .ok (.aload_n 0, 1) := by decide +kernel
theorem dX2_net_101 : decode cX2_net 101 = .ok (.getfield 27, 3) := by decide +kernel
theorem dX2_net_104 : decode cX2_net 104 = .ok (.iload 7, 2) := by decide +kernel
theorem dX2_net_106 : decode cX2_net 106 = .ok (.aload_n 0, 1) := by decide +kernel
theorem dX2_net_107 : decode cX2_net 107 = .ok (.getfield 27, 3) := by decide +kernel
theorem dX2_net_110 : decode cX2_net 110 = .ok (.iload 8, 2) := by decide +kernel
theorem dX2_net_112 : decode cX2_net 112 = .ok (.iconst 1, 1) := by decide +kernel
theorem dX2_net_113 : decode cX2_net 113 = .ok (.isub, 1) := by decide +kernel
theorem dX2_net_114 : decode cX2_net 114 = .ok (.iaload, 1) := by decide +kernel
theorem dX2_net_115 : decode cX2_net 115 = .ok (.iastore, 1) := by decide +kernel
theorem dX2_net_116 : decode cX2_net 116 = .ok (.aload_n 0, 1) := by decide +kernel
theorem dX2_net_117 : decode cX2_net 117 = .ok (.getfield 30, 3) := by decide +kernel
theorem dX2_net_120 : decode cX2_net 120 = .ok (.iload 7, 2) := by decide +kernel
theorem dX2_net_122 : decode cX2_net 122 = .ok (.aload_n 0, 1) := by decide +kernel
theorem dX2_net_123 : decode cX2_net 123 = .ok (.getfield 30, 3) := by decide +kernel
theorem dX2_net_126 : decode cX2_net 126 = .ok (.iload 8, 2) := by decide +kernel
theorem dX2_net_128 : decode cX2_net 128 = .ok (.iconst 1, 1) := by decide +kernel
theorem dX2_net_129 : decode cX2_net 129 = .ok (.isub, 1) := by decide +kernel
theorem dX2_net_130 : decode cX2_net 130 = .ok (.laload, 1) := by decide +kernel
theorem dX2_net_131 : decode cX2_net 131 = .ok (.lastore, 1) := by decide +kernel
theorem dX2_net_132 : decode cX2_net 132 = .ok (.aload_n 0, 1) := by decide +kernel
theorem dX2_net_133 : decode cX2_net 133 = .ok (.getfield 23, 3) := by decide +kernel
theorem dX2_net_136 : decode cX2_net 136 = .ok (.iload_n 1, 1) := by decide +kernel
theorem dX2_net_137 : decode cX2_net 137 = .ok (.aload_n 0, 1) := by decide +kernel
theorem dX2_net_138 : decode cX2_net 138 = .ok (.getfield 23, 3) := by decide +kernel
theorem dX2_net_141 : decode cX2_net 141 = .ok (.iload_n 1, 1) := by decide +kernel
theorem dX2_net_142 : decode cX2_net 142 = .ok (.iaload, 1) := by decide +kernel
theorem dX2_net_143 : decode cX2_net 143 = .ok (.iconst 1, 1) := by decide +kernel
theorem dX2_net_144 : decode cX2_net 144 = .ok (.isub, 1) := by decide +kernel
theorem dX2_net_145 : decode cX2_net 145 = .ok (.iastore, 1) := by decide +kernel
theorem dX2_net_146 : decode cX2_net 146 = .ok (.iconst 1, 1) := by decide +kernel
theorem dX2_net_147 : decode cX2_net 147 = .ok (.ireturn, 1) := by decide +kernel
theorem dX2_net_148 : decode cX2_net 148 = .ok (.lload 5, 2) := by decide +kernel
theorem dX2_net_150 : decode cX2_net 150 = .ok (.lconst 0, 1) := by decide +kernel
theorem dX2_net_151 : decode cX2_net 151 = .ok (.lcmp, 1) := by decide +kernel
theorem dX2_net_152 : decode cX2_net 152 = .ok (.ifCond .ne 5, 3) := by decide +kernel
theorem dX2_net_155 : decode cX2_net 155 = .ok (.iconst 1, 1) := by decide +kernel
theorem dX2_net_156 : decode cX2_net 156 = .ok (.ireturn, 1) := by decide +kernel
theorem dX2_net_157 : decode cX2_net 157 = .ok (.iload 7, 2) := by decide +kernel
theorem dX2_net_159 : decode cX2_net 159 = .ok (.iload 8, 2) := by decide +kernel
theorem dX2_net_161 : decode cX2_net 161 = .ok (.if_icmp .ne 16, 3) := by decide +kernel
theorem dX2_net_164 : decode cX2_net 164 = .ok (.aload_n 0, 1) := by decide +kernel
theorem dX2_net_165 : decode cX2_net 165 = .ok (.getfield 23, 3) := by decide +kernel
theorem dX2_net_168 : decode cX2_net 168 = .ok (.iload_n 1, 1) := by decide +kernel
theorem dX2_net_169 : decode cX2_net 169 = .ok (.iaload, 1) := by decide +kernel
theorem dX2_net_170 : decode cX2_net 170 = .ok (.bipush 16, 2) := by decide +kernel
theorem dX2_net_172 : decode cX2_net 172 = .ok (.if_icmp .ne 5, 3) := by decide +kernel
theorem dX2_net_175 : decode cX2_net 175 = .ok (.iconst 0, 1) := by decide +kernel
theorem dX2_net_176 : decode cX2_net 176 = .ok (.ireturn, 1) := by decide +kernel
theorem dX2_net_177 : decode cX2_net 177 = .ok (.iload 7, 2) := by decide +kernel
theorem dX2_net_179 : decode cX2_net 179 = .ok (.iload 8, 2) := by decide +kernel
theorem dX2_net_181 : decode cX2_net 181 = .ok (.if_icmp .ne 17, 3) := by decide +kernel
theorem dX2_net_184 : decode cX2_net 184 = .ok (.aload_n 0, 1) := by decide +kernel
theorem dX2_net_185 : decode cX2_net 185 = .ok (.getfield 23, 3) := by decide +kernel
theorem dX2_net_188 : decode cX2_net 188 = .ok (.iload_n 1, 1) := by decide +kernel
theorem dX2_net_189 : decode cX2_net 189 = .ok (.aload_n 0, 1) := by decide +kernel
theorem dX2_net_190 : decode cX2_net 190 = .ok (.getfield 23, 3) := by decide +kernel
theorem dX2_net_193 : decode cX2_net 193 = .ok (.iload_n 1, 1) := by decide +kernel
theorem dX2_net_194 : decode cX2_net 194 = .ok (.iaload, 1) := by decide +kernel
theorem dX2_net_195 : decode cX2_net 195 = .ok (.iconst 1, 1) := by decide +kernel
theorem dX2_net_196 : decode cX2_net 196 = .ok (.iadd, 1) := by decide +kernel
theorem dX2_net_197 : decode cX2_net 197 = .ok (.iastore, 1) := by decide +kernel
theorem dX2_net_198 : decode cX2_net 198 = .ok (.aload_n 0, 1) := by decide +kernel
theorem dX2_net_199 : decode cX2_net 199 = .ok (.getfield 27, 3) := by decide +kernel
theorem dX2_net_202 : decode cX2_net 202 = .ok (.iload 7, 2) := by decide +kernel
theorem dX2_net_204 : decode cX2_net 204 = .ok (.iload_n 2, 1) := by decide +kernel
theorem dX2_net_205 : decode cX2_net 205 = .ok (.iastore, 1) := by decide +kernel
theorem dX2_net_206 : decode cX2_net 206 = .ok (.aload_n 0, 1) := by decide +kernel
theorem dX2_net_207 : decode cX2_net 207 = .ok (.getfield 30, 3) := by decide +kernel
theorem dX2_net_210 : decode cX2_net 210 = .ok (.iload 7, 2) := by decide +kernel
theorem dX2_net_212 : decode cX2_net 212 = .ok (.lload 5, 2) := by decide +kernel
theorem dX2_net_214 : decode cX2_net 214 = .ok (.lastore, 1) := by decide +kernel
theorem dX2_net_215 : decode cX2_net 215 = .ok (.iconst 1, 1) := by decide +kernel
theorem dX2_net_216 : decode cX2_net 216 = .ok (.ireturn, 1) := by decide +kernel
theorem dX2_go_0 : decode cX2_go 0 = .ok (.aload_n 0, 1) := by decide +kernel
theorem dX2_go_1 : decode cX2_go 1 = .ok (.iload_n 1, 1) := by decide +kernel
theorem dX2_go_2 : decode cX2_go 2 = .ok (.invokevirtual 53, 3) := by decide +kernel
theorem dX2_go_5 : decode cX2_go 5 = .ok (.ifCond .ne 5, 3) := by decide +kernel
theorem dX2_go_8 : decode cX2_go 8 = .ok (.iconst 0, 1) := by decide +kernel
theorem dX2_go_9 : decode cX2_go 9 = .ok (.ireturn, 1) := by decide +kernel
theorem dX2_go_10 : decode cX2_go 10 = .ok (.aload_n 0, 1) := by decide +kernel
theorem dX2_go_11 : decode cX2_go 11 = .ok (.getfield 16, 3) := by decide +kernel
theorem dX2_go_14 : decode cX2_go 14 = .ok (.iload_n 1, 1) := by decide +kernel
theorem dX2_go_15 : decode cX2_go 15 = .ok (.iconst 0, 1) := by decide +kernel
theorem dX2_go_16 : decode cX2_go 16 = .ok (.bastore, 1) := by decide +kernel
theorem dX2_go_17 : decode cX2_go 17 = .ok (.iconst 1, 1) := by decide +kernel
theorem dX2_go_18 : decode cX2_go 18 = .ok (.ireturn, 1) := by decide +kernel
theorem dX2_total_0 : decode cX2_total 0 = .ok (.aload_n 0, 1) := by decide +kernel
theorem dX2_total_1 : decode cX2_total 1 = .ok (.getfield 7, 3) := by decide +kernel
theorem dX2_total_4 : decode cX2_total 4 = .ok (.iload_n 1, 1) := by decide +kernel
theorem dX2_total_5 : decode cX2_total 5 = .ok (.laload, 1) := by decide +kernel
theorem dX2_total_6 : decode cX2_total 6 = .ok (.lstore_n 2, 1) := by decide +kernel
theorem dX2_total_7 : decode cX2_total 7 = .ok (.iconst 0, 1) := by decide +kernel
theorem dX2_total_8 : decode cX2_total 8 = .ok (.istore 4, 2) := by decide +kernel
theorem dX2_total_10 : decode cX2_total 10 = .ok (.iload 4, 2) := by decide +kernel
theorem dX2_total_12 : decode cX2_total 12 = .ok (.aload_n 0, 1) := by decide +kernel
theorem dX2_total_13 : decode cX2_total 13 = .ok (.getfield 45, 3) := by decide +kernel
theorem dX2_total_16 : decode cX2_total 16 = .ok (.if_icmp .ge 33, 3) := by decide +kernel
theorem dX2_total_19 : decode cX2_total 19 = .ok (.lload_n 2, 1) := by decide +kernel
theorem dX2_total_20 : decode cX2_total 20 = .ok (.aload_n 0, 1) := by decide +kernel
theorem dX2_total_21 : decode cX2_total 21 = .ok (.getfield 20, 3) := by decide +kernel
theorem dX2_total_24 : decode cX2_total 24 = .ok (.iload 4, 2) := by decide +kernel
theorem dX2_total_26 : decode cX2_total 26 = .ok (.baload, 1) := by decide +kernel
theorem dX2_total_27 : decode cX2_total 27 = .ok (.ifCond .eq 13, 3) := by decide +kernel
theorem dX2_total_30 : decode cX2_total 30 = .ok (.aload_n 0, 1) := by decide +kernel
theorem dX2_total_31 : decode cX2_total 31 = .ok (.iload 4, 2) := by decide +kernel
theorem dX2_total_33 : decode cX2_total 33 = .ok (.iload_n 1, 1) := by decide +kernel
theorem dX2_total_34 : decode cX2_total 34 = .ok (.invokevirtual 60, 3) := by decide +kernel
theorem dX2_total_37 : decode cX2_total 37 = .ok (.goto 4, 3) := by decide +kernel
theorem dX2_total_40 : decode cX2_total 40 = .ok (.lconst 0, 1) := by decide +kernel
theorem dX2_total_41 : decode cX2_total 41 = .ok (.ladd, 1) := by decide +kernel
theorem dX2_total_42 : decode cX2_total 42 = .ok (.lstore_n 2, 1) := by decide +kernel
theorem dX2_total_43 : decode cX2_total 43 = .ok (.iinc 4 1, 3) := by decide +kernel
theorem dX2_total_46 : decode cX2_total 46 = .ok (.goto (-36), 3) := by decide +kernel
theorem dX2_total_49 : decode cX2_total 49 = .ok (.lload_n 2, 1) := by decide +kernel
theorem dX2_total_50 : decode cX2_total 50 = .ok (.lreturn, 1) := by decide +kernel
theorem dX2_lastTaker_0 : decode cX2_lastTaker 0 = .ok (.iconst (-1), 1) := by decide +kernel
theorem dX2_lastTaker_1 : decode cX2_lastTaker 1 = .ok (.istore_n 2, 1) := by decide +kernel
theorem dX2_lastTaker_2 : decode cX2_lastTaker 2 = .ok (.iconst 0, 1) := by decide +kernel
theorem dX2_lastTaker_3 : decode cX2_lastTaker 3 = .ok (.istore_n 3, 1) := by decide +kernel
theorem dX2_lastTaker_4 : decode cX2_lastTaker 4 = .ok (.iload_n 3, 1) := by decide +kernel
theorem dX2_lastTaker_5 : decode cX2_lastTaker 5 = .ok (.aload_n 0, 1) := by decide +kernel
theorem dX2_lastTaker_6 : decode cX2_lastTaker 6 = .ok (.getfield 45, 3) := by decide +kernel
theorem dX2_lastTaker_9 : decode cX2_lastTaker 9 = .ok (.if_icmp .ge 35, 3) := by decide +kernel
theorem dX2_lastTaker_12 : decode cX2_lastTaker 12 = .ok (.aload_n 0, 1) := by decide +kernel
theorem dX2_lastTaker_13 : decode cX2_lastTaker 13 = .ok (.getfield 20, 3) := by decide +kernel
theorem dX2_lastTaker_16 : decode cX2_lastTaker 16 = .ok (.iload_n 3, 1) := by decide +kernel
theorem dX2_lastTaker_17 : decode cX2_lastTaker 17 = .ok (.baload, 1) := by decide +kernel
theorem dX2_lastTaker_18 : decode cX2_lastTaker 18 = .ok (.ifCond .eq 18, 3) := by decide +kernel
theorem dX2_lastTaker_21 : decode cX2_lastTaker 21 = .ok (.aload_n 0, 1) := by decide +kernel
theorem dX2_lastTaker_22 : decode cX2_lastTaker 22 = .ok (.iload_n 3, 1) := by decide +kernel
theorem dX2_lastTaker_23 : decode cX2_lastTaker 23 = .ok (.iload_n 1, 1) := by decide +kernel
theorem dX2_lastTaker_24 : decode cX2_lastTaker 24 = .ok (.invokevirtual 60, 3) := by decide +kernel
theorem dX2_lastTaker_27 : decode cX2_lastTaker 27 = .ok (.lconst 0, 1) := by decide +kernel
theorem dX2_lastTaker_28 : decode cX2_lastTaker 28 = .ok (.lcmp, 1) := by decide +kernel
theorem dX2_lastTaker_29 : decode cX2_lastTaker 29 = .ok (.ifCond .ge 7, 3) := by decide +kernel
theorem dX2_lastTaker_32 : decode cX2_lastTaker 32 = .ok (.iload_n 3, 1) := by decide +kernel
theorem dX2_lastTaker_33 : decode cX2_lastTaker 33 = .ok (.goto 4, 3) := by decide +kernel
theorem dX2_lastTaker_36 : decode cX2_lastTaker 36 = .ok (.iload_n 2, 1) := by decide +kernel
theorem dX2_lastTaker_37 : decode cX2_lastTaker 37 = .ok (.istore_n 2, 1) := by decide +kernel
theorem dX2_lastTaker_38 : decode cX2_lastTaker 38 = .ok (.iinc 3 1, 3) := by decide +kernel
theorem dX2_lastTaker_41 : decode cX2_lastTaker 41 = .ok (.goto (-37), 3) := by decide +kernel
theorem dX2_lastTaker_44 : decode cX2_lastTaker 44 = .ok (.iload_n 2, 1) := by decide +kernel
theorem dX2_lastTaker_45 : decode cX2_lastTaker 45 = .ok (.ireturn, 1) := by decide +kernel
theorem dX2_meet_0 : decode cX2_meet 0 = .ok (.iconst 0, 1) := by decide +kernel
theorem dX2_meet_1 : decode cX2_meet 1 = .ok (.istore_n 3, 1) := by decide +kernel
theorem dX2_meet_2 : decode cX2_meet 2 = .ok (.bipush 16, 2) := by decide +kernel
theorem dX2_meet_4 : decode cX2_meet 4 = .ok (.iload_n 1, 1) := by decide +kernel
theorem dX2_meet_5 : decode cX2_meet 5 = .ok (.imul, 1) := by decide +kernel
theorem dX2_meet_6 : decode cX2_meet 6 = .ok (.istore 4, 2) := by decide +kernel
theorem dX2_meet_8 : decode cX2_meet 8 = .ok (.iload 4, 2) := by decide +kernel
theorem dX2_meet_10 : decode cX2_meet 10 = .ok (.bipush 16, 2) := by decide +kernel
theorem dX2_meet_12 : decode cX2_meet 12 = .ok (.iload_n 1, 1) := by decide +kernel
theorem dX2_meet_13 : decode cX2_meet 13 = .ok (.imul, 1) := by decide +kernel
theorem dX2_meet_14 : decode cX2_meet 14 = .ok (.aload_n 0, 1) := by decide +kernel
theorem dX2_meet_15 : decode cX2_meet 15 = .ok (.getfield 23, 3) := by decide +kernel
theorem dX2_meet_18 : decode cX2_meet 18 = .ok (.iload_n 1, 1) := by decide +kernel
theorem dX2_meet_19 : decode cX2_meet 19 = .ok (.iaload, 1) := by decide +kernel
theorem dX2_meet_20 : decode cX2_meet 20 = .ok (.iadd, 1) := by decide +kernel
theorem dX2_meet_21 : decode cX2_meet 21 = .ok (.if_icmp .ge 48, 3) := by decide +kernel
theorem dX2_meet_24 : decode cX2_meet 24 = .ok (.iload_n 3, 1) := by decide +kernel
theorem dX2_meet_25 : decode cX2_meet 25 = .ok (.ifCond .ne 32, 3) := by decide +kernel
theorem dX2_meet_28 : decode cX2_meet 28 = .ok (.aload_n 0, 1) := by decide +kernel
theorem dX2_meet_29 : decode cX2_meet 29 = .ok (.getfield 30, 3) := by decide +kernel
theorem dX2_meet_32 : decode cX2_meet 32 = .ok (.iload 4, 2) := by decide +kernel
theorem dX2_meet_34 : decode cX2_meet 34 = .ok (.laload, 1) := by decide +kernel
theorem dX2_meet_35 : decode cX2_meet 35 = .ok (.lconst 0, 1) := by decide +kernel
theorem dX2_meet_36 : decode cX2_meet 36 = .ok (.lcmp, 1) := by decide +kernel
theorem dX2_meet_37 : decode cX2_meet 37 = .ok (.ifCond .ge 24, 3) := by decide +kernel
theorem dX2_meet_40 : decode cX2_meet 40 = .ok (.aload_n 0, 1) := by decide +kernel
theorem dX2_meet_41 : decode cX2_meet 41 = .ok (.iload_n 2, 1) := by decide +kernel
theorem dX2_meet_42 : decode cX2_meet 42 = .ok (.aload_n 0, 1) := by decide +kernel
theorem dX2_meet_43 : decode cX2_meet 43 = .ok (.getfield 27, 3) := by decide +kernel
theorem dX2_meet_46 : decode cX2_meet 46 = .ok (.iload 4, 2) := by decide +kernel
theorem dX2_meet_48 : decode cX2_meet 48 = .ok (.iaload, 1) := by decide +kernel
theorem dX2_meet_49 : decode cX2_meet 49 = .ok (.invokevirtual 60, 3) := by decide +kernel
theorem dX2_meet_52 : decode cX2_meet 52 = .ok (.lconst 0, 1) := by decide +kernel
theorem dX2_meet_53 : decode cX2_meet 53 = .ok (.lcmp, 1) := by decide +kernel
theorem dX2_meet_54 : decode cX2_meet 54 = .ok (.ifCond .ge 7, 3) := by decide +kernel
theorem dX2_meet_57 : decode cX2_meet 57 = .ok (.iconst 1, 1) := by decide +kernel
theorem dX2_meet_58 : decode cX2_meet 58 = .ok (.goto 4, 3) := by decide +kernel
theorem dX2_meet_61 : decode cX2_meet 61 = .ok (.iconst 0, 1) := by decide +kernel
theorem dX2_meet_62 : decode cX2_meet 62 = .ok (.istore_n 3, 1) := by decide +kernel
theorem dX2_meet_63 : decode cX2_meet 63 = .ok (.iinc 4 1, 3) := by decide +kernel
theorem dX2_meet_66 : decode cX2_meet 66 = .ok (.goto (-58), 3) := by decide +kernel
theorem dX2_meet_69 : decode cX2_meet 69 = .ok (.iload_n 3, 1) := by decide +kernel
theorem dX2_meet_70 : decode cX2_meet 70 = .ok (.ireturn, 1) := by decide +kernel
theorem dX2_lacks_0 : decode cX2_lacks 0 = .ok (.iconst 0, 1) := by decide +kernel
theorem dX2_lacks_1 : decode cX2_lacks 1 = .ok (.istore_n 2, 1) := by decide +kernel
theorem dX2_lacks_2 : decode cX2_lacks 2 = .ok (.iconst 0, 1) := by decide +kernel
theorem dX2_lacks_3 : decode cX2_lacks 3 = .ok (.istore_n 3, 1) := by decide +kernel
theorem dX2_lacks_4 : decode cX2_lacks 4 = .ok (.iload_n 3, 1) := by decide +kernel
theorem dX2_lacks_5 : decode cX2_lacks 5 = .ok (.iload_n 1, 1) := by decide +kernel
theorem dX2_lacks_6 : decode cX2_lacks 6 = .ok (.if_icmp .ge 46, 3) := by decide +kernel
theorem dX2_lacks_9 : decode cX2_lacks 9 = .ok (.iload_n 2, 1) := by decide +kernel
theorem dX2_lacks_10 : decode cX2_lacks 10 = .ok (.ifCond .ne 30, 3) := by decide +kernel
theorem dX2_lacks_13 : decode cX2_lacks 13 = .ok (.aload_n 0, 1) := by decide +kernel
theorem dX2_lacks_14 : decode cX2_lacks 14 = .ok (.getfield 16, 3) := by decide +kernel
theorem dX2_lacks_17 : decode cX2_lacks 17 = .ok (.iload_n 3, 1) := by decide +kernel
theorem dX2_lacks_18 : decode cX2_lacks 18 = .ok (.baload, 1) := by decide +kernel
theorem dX2_lacks_19 : decode cX2_lacks 19 = .ok (.ifCond .eq 25, 3) := by decide +kernel
theorem dX2_lacks_22 : decode cX2_lacks 22 = .ok (.aload_n 0, 1) := by decide +kernel
theorem dX2_lacks_23 : decode cX2_lacks 23 = .ok (.getfield 20, 3) := by decide +kernel
theorem dX2_lacks_26 : decode cX2_lacks 26 = .ok (.iload_n 3, 1) := by decide +kernel
theorem dX2_lacks_27 : decode cX2_lacks 27 = .ok (.baload, 1) := by decide +kernel
theorem dX2_lacks_28 : decode cX2_lacks 28 = .ok (.ifCond .ne 16, 3) := by decide +kernel
theorem dX2_lacks_31 : decode cX2_lacks 31 = .ok (.aload_n 0, 1) := by decide +kernel
theorem dX2_lacks_32 : decode cX2_lacks 32 = .ok (.iload_n 3, 1) := by decide +kernel
theorem dX2_lacks_33 : decode cX2_lacks 33 = .ok (.iload_n 1, 1) := by decide +kernel
theorem dX2_lacks_34 : decode cX2_lacks 34 = .ok (.invokevirtual 68, 3) := by decide +kernel
theorem dX2_lacks_37 : decode cX2_lacks 37 = .ok (.ifCond .eq 7, 3) := by decide +kernel
theorem dX2_lacks_40 : decode cX2_lacks 40 = .ok (.iconst 1, 1) := by decide +kernel
theorem dX2_lacks_41 : decode cX2_lacks 41 = .ok (.goto 4, 3) := by decide +kernel
theorem dX2_lacks_44 : decode cX2_lacks 44 = .ok (.iconst 0, 1) := by decide +kernel
theorem dX2_lacks_45 : decode cX2_lacks 45 = .ok (.istore_n 2, 1) := by decide +kernel
theorem dX2_lacks_46 : decode cX2_lacks 46 = .ok (.iinc 3 1, 3) := by decide +kernel
theorem dX2_lacks_49 : decode cX2_lacks 49 = .ok (.goto (-45), 3) := by decide +kernel
theorem dX2_lacks_52 : decode cX2_lacks 52 = .ok (.iload_n 2, 1) := by decide +kernel
theorem dX2_lacks_53 : decode cX2_lacks 53 = .ok (.ireturn, 1) := by decide +kernel
theorem dX2_solve_0 : decode cX2_solve 0 = .ok (.iconst 0, 1) := by decide +kernel
theorem dX2_solve_1 : decode cX2_solve 1 = .ok (.istore_n 1, 1) := by decide +kernel
theorem dX2_solve_2 : decode cX2_solve 2 = .ok (.iload_n 1, 1) := by decide +kernel
theorem dX2_solve_3 : decode cX2_solve 3 = .ok (.sipush 200, 3) := by decide +kernel
theorem dX2_solve_6 : decode cX2_solve 6 = .ok (.if_icmp .ge 21, 3) := by decide +kernel
theorem dX2_solve_9 : decode cX2_solve 9 = .ok (.aload_n 0, 1) := by decide +kernel
theorem dX2_solve_10 : decode cX2_solve 10 = .ok (.getfield 20, 3) := by decide +kernel
theorem dX2_solve_13 : decode cX2_solve 13 = .ok (.iload_n 1, 1) := by decide +kernel
theorem dX2_solve_14 : decode cX2_solve 14 = .ok (.aload_n 0, 1) := by decide +kernel
theorem dX2_solve_15 : decode cX2_solve 15 = .ok (.getfield 16, 3) := by decide +kernel
theorem dX2_solve_18 : decode cX2_solve 18 = .ok (.iload_n 1, 1) := by decide +kernel
theorem dX2_solve_19 : decode cX2_solve 19 = .ok (.baload, 1) := by decide +kernel
theorem dX2_solve_20 : decode cX2_solve 20 = .ok (.bastore, 1) := by decide +kernel
theorem dX2_solve_21 : decode cX2_solve 21 = .ok (.iinc 1 1, 3) := by decide +kernel
theorem dX2_solve_24 : decode cX2_solve 24 = .ok (.goto (-22), 3) := by decide +kernel
theorem dX2_solve_27 : decode cX2_solve 27 = .ok (.iconst 1, 1) := by decide +kernel
theorem dX2_solve_28 : decode cX2_solve 28 = .ok (.istore_n 1, 1) := by decide +kernel
theorem dX2_solve_29 : decode cX2_solve 29 = .ok (.iload_n 1, 1) := by decide +kernel
theorem dX2_solve_30 : decode cX2_solve 30 = .ok (.ifCond .eq 93, 3) := by decide +kernel
theorem dX2_solve_33 : decode cX2_solve 33 = .ok (.iconst 0, 1) := by decide +kernel
theorem dX2_solve_34 : decode cX2_solve 34 = .ok (.istore_n 1, 1) := by decide +kernel
theorem dX2_solve_35 : decode cX2_solve 35 = .ok (.iconst 0, 1) := by decide +kernel
theorem dX2_solve_36 : decode cX2_solve 36 = .ok (.istore_n 2, 1) := by decide +kernel
theorem dX2_solve_37 : decode cX2_solve 37 = .ok (.iload_n 2, 1) := by decide +kernel
theorem dX2_solve_38 : decode cX2_solve 38 = .ok (.sipush 300, 3) := by decide +kernel
theorem dX2_solve_41 : decode cX2_solve 41 = .ok (.if_icmp .ge 37, 3) := by decide +kernel
theorem dX2_solve_44 : decode cX2_solve 44 = .ok (.aload_n 0, 1) := by decide +kernel
theorem dX2_solve_45 : decode cX2_solve 45 = .ok (.iload_n 2, 1) := by decide +kernel
theorem dX2_solve_46 : decode cX2_solve 46 = .ok (.invokevirtual 72, 3) := by decide +kernel
theorem dX2_solve_49 : decode cX2_solve 49 = .ok (.aload_n 0, 1) := by decide +kernel
theorem dX2_solve_50 : decode cX2_solve 50 = .ok (.getfield 13, 3) := by decide +kernel
theorem dX2_solve_53 : decode cX2_solve 53 = .ok (.iload_n 2, 1) := by decide +kernel
theorem dX2_solve_54 : decode cX2_solve 54 = .ok (.laload, 1) := by decide +kernel
theorem dX2_solve_55 : decode cX2_solve 55 = .ok (.lcmp, 1) := by decide +kernel
theorem dX2_solve_56 : decode cX2_solve 56 = .ok (.ifCond .ge 16, 3) := by decide +kernel
theorem dX2_solve_59 : decode cX2_solve 59 = .ok (.aload_n 0, 1) := by decide +kernel
theorem dX2_solve_60 : decode cX2_solve 60 = .ok (.getfield 20, 3) := by decide +kernel
theorem dX2_solve_63 : decode cX2_solve 63 = .ok (.aload_n 0, 1) := by decide +kernel
theorem dX2_solve_64 : decode cX2_solve 64 = .ok (.iload_n 2, 1) := by decide +kernel
theorem dX2_solve_65 : decode cX2_solve 65 = .ok (.invokevirtual 76, 3) := by decide +kernel
theorem dX2_solve_68 : decode cX2_solve 68 = .ok (.iconst 0, 1) := by decide +kernel
theorem dX2_solve_69 : decode cX2_solve 69 = .ok (.bastore, 1) := by decide +kernel
theorem dX2_solve_70 : decode cX2_solve 70 = .ok (.iconst 1, 1) := by decide +kernel
theorem dX2_solve_71 : decode cX2_solve 71 = .ok (.istore_n 1, 1) := by decide +kernel
theorem dX2_solve_72 : decode cX2_solve 72 = .ok (.iinc 2 1, 3) := by decide +kernel
theorem dX2_solve_75 : decode cX2_solve 75 = .ok (.goto (-38), 3) := by decide +kernel
theorem dX2_solve_78 : decode cX2_solve 78 = .ok (.iconst 0, 1) := by decide +kernel
theorem dX2_solve_79 : decode cX2_solve 79 = .ok (.istore_n 2, 1) := by decide +kernel
theorem dX2_solve_80 : decode cX2_solve 80 = .ok (.iload_n 2, 1) := by decide +kernel
theorem dX2_solve_81 : decode cX2_solve 81 = .ok (.aload_n 0, 1) := by decide +kernel
theorem dX2_solve_82 : decode cX2_solve 82 = .ok (.getfield 45, 3) := by decide +kernel
theorem dX2_solve_85 : decode cX2_solve 85 = .ok (.if_icmp .ge 35, 3) := by decide +kernel
theorem dX2_solve_88 : decode cX2_solve 88 = .ok (.aload_n 0, 1) := by decide +kernel
theorem dX2_solve_89 : decode cX2_solve 89 = .ok (.getfield 20, 3) := by decide +kernel
theorem dX2_solve_92 : decode cX2_solve 92 = .ok (.iload_n 2, 1) := by decide +kernel
theorem dX2_solve_93 : decode cX2_solve 93 = .ok (.baload, 1) := by decide +kernel
theorem dX2_solve_94 : decode cX2_solve 94 = .ok (.ifCond .eq 20, 3) := by decide +kernel
theorem dX2_solve_97 : decode cX2_solve 97 = .ok (.aload_n 0, 1) := by decide +kernel
theorem dX2_solve_98 : decode cX2_solve 98 = .ok (.iload_n 2, 1) := by decide +kernel
theorem dX2_solve_99 : decode cX2_solve 99 = .ok (.invokevirtual 80, 3) := by decide +kernel
theorem dX2_solve_102 : decode cX2_solve 102 = .ok (.ifCond .eq 12, 3) := by decide +kernel
theorem dX2_solve_105 : decode cX2_solve 105 = .ok (.aload_n 0, 1) := by decide +kernel
theorem dX2_solve_106 : decode cX2_solve 106 = .ok (.getfield 20, 3) := by decide +kernel
theorem dX2_solve_109 : decode cX2_solve 109 = .ok (.iload_n 2, 1) := by decide +kernel
theorem dX2_solve_110 : decode cX2_solve 110 = .ok (.iconst 0, 1) := by decide +kernel
theorem dX2_solve_111 : decode cX2_solve 111 = .ok (.bastore, 1) := by decide +kernel
theorem dX2_solve_112 : decode cX2_solve 112 = .ok (.iconst 1, 1) := by decide +kernel
theorem dX2_solve_113 : decode cX2_solve 113 = .ok (.istore_n 1, 1) := by decide +kernel
theorem dX2_solve_114 : decode cX2_solve 114 = .ok (.iinc 2 1, 3) := by decide +kernel
theorem dX2_solve_117 : decode cX2_solve 117 = .ok (.goto (-37), 3) := by decide +kernel
theorem dX2_solve_120 : decode cX2_solve 120 = .ok (.goto (-91), 3) := by decide +kernel
theorem dX2_solve_123 : decode cX2_solve 123 = .ok (.aload_n 0, 1) := by decide +kernel
theorem dX2_solve_124 : decode cX2_solve 124 = .ok (.iconst 2, 1) := by decide +kernel
theorem dX2_solve_125 : decode cX2_solve 125 = .ok (.invokevirtual 83, 3) := by decide +kernel
theorem dX2_solve_128 : decode cX2_solve 128 = .ok (.ireturn, 1) := by decide +kernel
theorem dX2_in_0 : decode cX2_in 0 = .ok (.iload_n 1, 1) := by decide +kernel
theorem dX2_in_1 : decode cX2_in 1 = .ok (.ifCond .lt 23, 3) := by decide +kernel
theorem dX2_in_4 : decode cX2_in 4 = .ok (.iload_n 1, 1) := by decide +kernel
theorem dX2_in_5 : decode cX2_in 5 = .ok (.sipush 200, 3) := by decide +kernel
theorem dX2_in_8 : decode cX2_in 8 = .ok (.if_icmp .ge 16, 3) := by decide +kernel
theorem dX2_in_11 : decode cX2_in 11 = .ok (.aload_n 0, 1) := by decide +kernel
theorem dX2_in_12 : decode cX2_in 12 = .ok (.getfield 20, 3) := by decide +kernel
theorem dX2_in_15 : decode cX2_in 15 = .ok (.iload_n 1, 1) := by decide +kernel
theorem dX2_in_16 : decode cX2_in 16 = .ok (.baload, 1) := by decide +kernel
theorem dX2_in_17 : decode cX2_in 17 = .ok (.ifCond .eq 7, 3) := by decide +kernel
theorem dX2_in_20 : decode cX2_in 20 = .ok (.iconst 1, 1) := by decide +kernel
theorem dX2_in_21 : decode cX2_in 21 = .ok (.goto 4, 3) := by decide +kernel
theorem dX2_in_24 : decode cX2_in 24 = .ok (.iconst 0, 1) := by decide +kernel
theorem dX2_in_25 : decode cX2_in 25 = .ok (.ireturn, 1) := by decide +kernel
theorem dX2_perform_0 : decode cX2_perform 0 = .ok (.aload_n 0, 1) := by decide +kernel
theorem dX2_perform_1 : decode cX2_perform 1 = .ok (.invokevirtual 86, 3) := by decide +kernel
theorem dX2_perform_4 : decode cX2_perform 4 = .ok (.istore_n 1, 1) := by decide +kernel
theorem dX2_perform_5 : decode cX2_perform 5 = .ok (.iconst 0, 1) := by decide +kernel
theorem dX2_perform_6 : decode cX2_perform 6 = .ok (.istore_n 2, 1) := by decide +kernel
theorem dX2_perform_7 : decode cX2_perform 7 = .ok (.iload_n 2, 1) := by decide +kernel
theorem dX2_perform_8 : decode cX2_perform 8 = .ok (.sipush 300, 3) := by decide +kernel
theorem dX2_perform_11 : decode cX2_perform 11 = .ok (.if_icmp .ge 23, 3) := by decide +kernel
theorem dX2_perform_14 : decode cX2_perform 14 = .ok (.aload_n 0, 1) := by decide +kernel
theorem dX2_perform_15 : decode cX2_perform 15 = .ok (.iload_n 2, 1) := by decide +kernel
theorem dX2_perform_16 : decode cX2_perform 16 = .ok (.invokevirtual 72, 3) := by decide +kernel
theorem dX2_perform_19 : decode cX2_perform 19 = .ok (.ldc2_w 35, 3) := by decide +kernel
theorem dX2_perform_22 : decode cX2_perform 22 = .ok (.lcmp, 1) := by decide +kernel
theorem dX2_perform_23 : decode cX2_perform 23 = .ok (.ifCond .le 5, 3) := by decide +kernel
theorem dX2_perform_26 : decode cX2_perform 26 = .ok (.iconst (-1), 1) := by decide +kernel
theorem dX2_perform_27 : decode cX2_perform 27 = .ok (.ireturn, 1) := by decide +kernel
theorem dX2_perform_28 : decode cX2_perform 28 = .ok (.iinc 2 1, 3) := by decide +kernel
theorem dX2_perform_31 : decode cX2_perform 31 = .ok (.goto (-24), 3) := by decide +kernel
theorem dX2_perform_34 : decode cX2_perform 34 = .ok (.iconst 0, 1) := by decide +kernel
theorem dX2_perform_35 : decode cX2_perform 35 = .ok (.istore_n 2, 1) := by decide +kernel
theorem dX2_perform_36 : decode cX2_perform 36 = .ok (.iload_n 2, 1) := by decide +kernel
theorem dX2_perform_37 : decode cX2_perform 37 = .ok (.sipush 300, 3) := by decide +kernel
theorem dX2_perform_40 : decode cX2_perform 40 = .ok (.if_icmp .ge 20, 3) := by decide +kernel
theorem dX2_perform_43 : decode cX2_perform 43 = .ok (.aload_n 0, 1) := by decide +kernel
theorem dX2_perform_44 : decode cX2_perform 44 = .ok (.getfield 7, 3) := by decide +kernel
theorem dX2_perform_47 : decode cX2_perform 47 = .ok (.iload_n 2, 1) := by decide +kernel
theorem dX2_perform_48 : decode cX2_perform 48 = .ok (.aload_n 0, 1) := by decide +kernel
theorem dX2_perform_49 : decode cX2_perform 49 = .ok (.iload_n 2, 1) := by decide +kernel
theorem dX2_perform_50 : decode cX2_perform 50 = .ok (.invokevirtual 72, 3) := by decide +kernel
theorem dX2_perform_53 : decode cX2_perform 53 = .ok (.lastore, 1) := by decide +kernel
theorem dX2_perform_54 : decode cX2_perform 54 = .ok (.iinc 2 1, 3) := by decide +kernel
theorem dX2_perform_57 : decode cX2_perform 57 = .ok (.goto (-21), 3) := by decide +kernel
theorem dX2_perform_60 : decode cX2_perform 60 = .ok (.iconst 0, 1) := by decide +kernel
theorem dX2_perform_61 : decode cX2_perform 61 = .ok (.istore_n 2, 1) := by decide +kernel
theorem dX2_perform_62 : decode cX2_perform 62 = .ok (.iload_n 2, 1) := by decide +kernel
theorem dX2_perform_63 : decode cX2_perform 63 = .ok (.aload_n 0, 1) := by decide +kernel
theorem dX2_perform_64 : decode cX2_perform 64 = .ok (.getfield 45, 3) := by decide +kernel
theorem dX2_perform_67 : decode cX2_perform 67 = .ok (.if_icmp .ge 38, 3) := by decide +kernel
theorem dX2_perform_70 : decode cX2_perform 70 = .ok (.aload_n 0, 1) := by decide +kernel
theorem dX2_perform_71 : decode cX2_perform 71 = .ok (.getfield 16, 3) := by decide +kernel
theorem dX2_perform_74 : decode cX2_perform 74 = .ok (.iload_n 2, 1) := by decide +kernel
theorem dX2_perform_75 : decode cX2_perform 75 = .ok (.aload_n 0, 1) := by decide +kernel
theorem dX2_perform_76 : decode cX2_perform 76 = .ok (.getfield 16, 3) := by decide +kernel
theorem dX2_perform_79 : decode cX2_perform 79 = .ok (.iload_n 2, 1) := by decide +kernel
theorem dX2_perform_80 : decode cX2_perform 80 = .ok (.baload, 1) := by decide +kernel
theorem dX2_perform_81 : decode cX2_perform 81 = .ok (.ifCond .eq 16, 3) := by decide +kernel
theorem dX2_perform_84 : decode cX2_perform 84 = .ok (.aload_n 0, 1) := by decide +kernel
theorem dX2_perform_85 : decode cX2_perform 85 = .ok (.getfield 20, 3) := by decide +kernel
theorem dX2_perform_88 : decode cX2_perform 88 = .ok (.iload_n 2, 1) := by decide +kernel
theorem dX2_perform_89 : decode cX2_perform 89 = .ok (.baload, 1) := by decide +kernel
theorem dX2_perform_90 : decode cX2_perform 90 = .ok (.ifCond .ne 7, 3) := by decide +kernel
theorem dX2_perform_93 : decode cX2_perform 93 = .ok (.iconst 1, 1) := by decide +kernel
theorem dX2_perform_94 : decode cX2_perform 94 = .ok (.goto 4, 3) := by decide +kernel
theorem dX2_perform_97 : decode cX2_perform 97 = .ok (.iconst 0, 1) := by decide +kernel
theorem dX2_perform_98 : decode cX2_perform 98 = .ok (.bastore, 1) := by decide +kernel
theorem dX2_perform_99 : decode cX2_perform 99 = .ok (.iinc 2 1, 3) := by decide +kernel
theorem dX2_perform_102 : decode cX2_perform 102 = .ok (.goto (-40), 3) := by decide +kernel
theorem dX2_perform_105 : decode cX2_perform 105 = .ok (.iload_n 1, 1) := by decide +kernel
theorem dX2_perform_106 : decode cX2_perform 106 = .ok (.ireturn, 1) := by decide +kernel
theorem dX2_value_0 : decode cX2_value 0 = .ok (.iload_n 1, 1) := by decide +kernel
theorem dX2_value_1 : decode cX2_value 1 = .ok (.invokestatic 37, 3) := by decide +kernel
theorem dX2_value_4 : decode cX2_value 4 = .ok (.ifCond .eq 12, 3) := by decide +kernel
theorem dX2_value_7 : decode cX2_value 7 = .ok (.aload_n 0, 1) := by decide +kernel
theorem dX2_value_8 : decode cX2_value 8 = .ok (.getfield 7, 3) := by decide +kernel
theorem dX2_value_11 : decode cX2_value 11 = .ok (.iload_n 1, 1) := by decide +kernel
theorem dX2_value_12 : decode cX2_value 12 = .ok (.laload, 1) := by decide +kernel
theorem dX2_value_13 : decode cX2_value 13 = .ok (.goto 4, 3) := by decide +kernel
theorem dX2_value_16 : decode cX2_value 16 = .ok (.lconst 0, 1) := by decide +kernel
theorem dX2_value_17 : decode cX2_value 17 = .ok (.lreturn, 1) := by decide +kernel
theorem dX2_netOf_0 : decode cX2_netOf 0 = .ok (.aload_n 0, 1) := by decide +kernel
theorem dX2_netOf_1 : decode cX2_netOf 1 = .ok (.iload_n 1, 1) := by decide +kernel
theorem dX2_netOf_2 : decode cX2_netOf 2 = .ok (.invokevirtual 53, 3) := by decide +kernel
theorem dX2_netOf_5 : decode cX2_netOf 5 = .ok (.ifCond .eq 19, 3) := by decide +kernel
theorem dX2_netOf_8 : decode cX2_netOf 8 = .ok (.iload_n 2, 1) := by decide +kernel
theorem dX2_netOf_9 : decode cX2_netOf 9 = .ok (.invokestatic 37, 3) := by decide +kernel
theorem dX2_netOf_12 : decode cX2_netOf 12 = .ok (.ifCond .eq 12, 3) := by decide +kernel
theorem dX2_netOf_15 : decode cX2_netOf 15 = .ok (.aload_n 0, 1) := by decide +kernel
theorem dX2_netOf_16 : decode cX2_netOf 16 = .ok (.iload_n 1, 1) := by decide +kernel
theorem dX2_netOf_17 : decode cX2_netOf 17 = .ok (.iload_n 2, 1) := by decide +kernel
theorem dX2_netOf_18 : decode cX2_netOf 18 = .ok (.invokevirtual 60, 3) := by decide +kernel
theorem dX2_netOf_21 : decode cX2_netOf 21 = .ok (.goto 4, 3) := by decide +kernel
theorem dX2_netOf_24 : decode cX2_netOf 24 = .ok (.lconst 0, 1) := by decide +kernel
theorem dX2_netOf_25 : decode cX2_netOf 25 = .ok (.lreturn, 1) := by decide +kernel
theorem dX2_count_0 : decode cX2_count 0 = .ok (.iconst 0, 1) := by decide +kernel
theorem dX2_count_1 : decode cX2_count 1 = .ok (.istore_n 2, 1) := by decide +kernel
theorem dX2_count_2 : decode cX2_count 2 = .ok (.iconst 0, 1) := by decide +kernel
theorem dX2_count_3 : decode cX2_count 3 = .ok (.istore_n 3, 1) := by decide +kernel
theorem dX2_count_4 : decode cX2_count 4 = .ok (.iconst 0, 1) := by decide +kernel
theorem dX2_count_5 : decode cX2_count 5 = .ok (.istore 4, 2) := by decide +kernel
theorem dX2_count_7 : decode cX2_count 7 = .ok (.iload 4, 2) := by decide +kernel
theorem dX2_count_9 : decode cX2_count 9 = .ok (.sipush 200, 3) := by decide +kernel
theorem dX2_count_12 : decode cX2_count 12 = .ok (.if_icmp .ge 45, 3) := by decide +kernel
theorem dX2_count_15 : decode cX2_count 15 = .ok (.iload_n 2, 1) := by decide +kernel
theorem dX2_count_16 : decode cX2_count 16 = .ok (.aload_n 0, 1) := by decide +kernel
theorem dX2_count_17 : decode cX2_count 17 = .ok (.getfield 16, 3) := by decide +kernel
theorem dX2_count_20 : decode cX2_count 20 = .ok (.iload 4, 2) := by decide +kernel
theorem dX2_count_22 : decode cX2_count 22 = .ok (.baload, 1) := by decide +kernel
theorem dX2_count_23 : decode cX2_count 23 = .ok (.ifCond .eq 7, 3) := by decide +kernel
theorem dX2_count_26 : decode cX2_count 26 = .ok (.iconst 1, 1) := by decide +kernel
theorem dX2_count_27 : decode cX2_count 27 = .ok (.goto 4, 3) := by decide +kernel
theorem dX2_count_30 : decode cX2_count 30 = .ok (.iconst 0, 1) := by decide +kernel
theorem dX2_count_31 : decode cX2_count 31 = .ok (.iadd, 1) := by decide +kernel
theorem dX2_count_32 : decode cX2_count 32 = .ok (.istore_n 2, 1) := by decide +kernel
theorem dX2_count_33 : decode cX2_count 33 = .ok (.iload_n 3, 1) := by decide +kernel
theorem dX2_count_34 : decode cX2_count 34 = .ok (.aload_n 0, 1) := by decide +kernel
theorem dX2_count_35 : decode cX2_count 35 = .ok (.getfield 20, 3) := by decide +kernel
theorem dX2_count_38 : decode cX2_count 38 = .ok (.iload 4, 2) := by decide +kernel
theorem dX2_count_40 : decode cX2_count 40 = .ok (.baload, 1) := by decide +kernel
theorem dX2_count_41 : decode cX2_count 41 = .ok (.ifCond .eq 7, 3) := by decide +kernel
theorem dX2_count_44 : decode cX2_count 44 = .ok (.iconst 1, 1) := by decide +kernel
theorem dX2_count_45 : decode cX2_count 45 = .ok (.goto 4, 3) := by decide +kernel
theorem dX2_count_48 : decode cX2_count 48 = .ok (.iconst 0, 1) := by decide +kernel
theorem dX2_count_49 : decode cX2_count 49 = .ok (.iadd, 1) := by decide +kernel
theorem dX2_count_50 : decode cX2_count 50 = .ok (.istore_n 3, 1) := by decide +kernel
theorem dX2_count_51 : decode cX2_count 51 = .ok (.iinc 4 1, 3) := by decide +kernel
theorem dX2_count_54 : decode cX2_count 54 = .ok (.goto (-47), 3) := by decide +kernel
theorem dX2_count_57 : decode cX2_count 57 = .ok (.iload_n 1, 1) := by decide +kernel
theorem dX2_count_58 : decode cX2_count 58 = .ok (.ifCond .ne 10, 3) := by decide +kernel
theorem dX2_count_61 : decode cX2_count 61 = .ok (.aload_n 0, 1) := by decide +kernel
theorem dX2_count_62 : decode cX2_count 62 = .ok (.getfield 45, 3) := by decide +kernel
theorem dX2_count_65 : decode cX2_count 65 = .ok (.goto 22, 3) := by decide +kernel
theorem dX2_count_68 : decode cX2_count 68 = .ok (.iload_n 1, 1) := by decide +kernel
theorem dX2_count_69 : decode cX2_count 69 = .ok (.iconst 1, 1) := by decide +kernel
theorem dX2_count_70 : decode cX2_count 70 = .ok (.if_icmp .ne 7, 3) := by decide +kernel
theorem dX2_count_73 : decode cX2_count 73 = .ok (.iload_n 2, 1) := by decide +kernel
theorem dX2_count_74 : decode cX2_count 74 = .ok (.goto 13, 3) := by decide +kernel
theorem dX2_count_77 : decode cX2_count 77 = .ok (.iload_n 1, 1) := by decide +kernel
theorem dX2_count_78 : decode cX2_count 78 = .ok (.iconst 2, 1) := by decide +kernel
theorem dX2_count_79 : decode cX2_count 79 = .ok (.if_icmp .ne 7, 3) := by decide +kernel
theorem dX2_count_82 : decode cX2_count 82 = .ok (.iload_n 3, 1) := by decide +kernel
theorem dX2_count_83 : decode cX2_count 83 = .ok (.goto 4, 3) := by decide +kernel
theorem dX2_count_86 : decode cX2_count 86 = .ok (.iconst (-1), 1) := by decide +kernel
theorem dX2_count_87 : decode cX2_count 87 = .ok (.ireturn, 1) := by decide +kernel
