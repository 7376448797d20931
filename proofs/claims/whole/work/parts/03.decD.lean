/-! decode rows, printed by wip/whole/tools/names.py -/
theorem dX1_init_0 : decode cX1_init 0 = .ok (.aload_n 0, 1) := by decide +kernel
theorem dX1_init_1 : decode cX1_init 1 = .ok (.invokespecial 1, 3) := by decide +kernel
theorem dX1_init_4 : decode cX1_init 4 = .ok (.aload_n 0, 1) := by decide +kernel
theorem dX1_init_5 : decode cX1_init 5 = .ok (.sipush 300, 3) := by decide +kernel
theorem dX1_init_8 : decode cX1_init 8 = .ok (.newarray .long, 2) := by decide +kernel
theorem dX1_init_10 : decode cX1_init 10 = .ok (.putfield 9, 3) := by decide +kernel
theorem dX1_init_13 : decode cX1_init 13 = .ok (.aload_n 0, 1) := by decide +kernel
theorem dX1_init_14 : decode cX1_init 14 = .ok (.sipush 300, 3) := by decide +kernel
theorem dX1_init_17 : decode cX1_init 17 = .ok (.newarray .long, 2) := by decide +kernel
theorem dX1_init_19 : decode cX1_init 19 = .ok (.putfield 13, 3) := by decide +kernel
theorem dX1_init_22 : decode cX1_init 22 = .ok (.aload_n 0, 1) := by decide +kernel
theorem dX1_init_23 : decode cX1_init 23 = .ok (.sipush 200, 3) := by decide +kernel
theorem dX1_init_26 : decode cX1_init 26 = .ok (.anewarray 16, 3) := by decide +kernel
theorem dX1_init_29 : decode cX1_init 29 = .ok (.putfield 18, 3) := by decide +kernel
theorem dX1_init_32 : decode cX1_init 32 = .ok (.aload_n 0, 1) := by decide +kernel
theorem dX1_init_33 : decode cX1_init 33 = .ok (.sipush 300, 3) := by decide +kernel
theorem dX1_init_36 : decode cX1_init 36 = .ok (.newarray .long, 2) := by decide +kernel
theorem dX1_init_38 : decode cX1_init 38 = .ok (.putfield 22, 3) := by decide +kernel
theorem dX1_init_41 : decode cX1_init 41 = .ok (.aload_n 0, 1) := by decide +kernel
theorem dX1_init_42 : decode cX1_init 42 = .ok (.sipush 300, 3) := by decide +kernel
theorem dX1_init_45 : decode cX1_init 45 = .ok (.newarray .boolean, 2) := by decide +kernel
theorem dX1_init_47 : decode cX1_init 47 = .ok (.putfield 25, 3) := by decide +kernel
theorem dX1_init_50 : decode cX1_init 50 = .ok (.return_, 1) := by decide +kernel
theorem dX1_place_0 : decode cX1_place 0 = .ok (.iload_n 1, 1) := by decide +kernel
theorem dX1_place_1 : decode cX1_place 1 = .ok (.invokestatic 29, 3) := by decide +kernel
theorem dX1_place_4 : decode cX1_place 4 = .ok (.ifCond .eq 25, 3) := by decide +kernel
theorem dX1_place_7 : decode cX1_place 7 = .ok (.lload_n 2, 1) := by decide +kernel
theorem dX1_place_8 : decode cX1_place 8 = .ok (.invokestatic 33, 3) := by decide +kernel
theorem dX1_place_11 : decode cX1_place 11 = .ok (.ifCond .eq 18, 3) := by decide +kernel
theorem dX1_place_14 : decode cX1_place 14 = .ok (.lload 4, 2) := by decide +kernel
theorem dX1_place_16 : decode cX1_place 16 = .ok (.invokestatic 33, 3) := by decide +kernel
theorem dX1_place_19 : decode cX1_place 19 = .ok (.ifCond .eq 10, 3) := by decide +kernel
theorem dX1_place_22 : decode cX1_place 22 = .ok (.lload_n 2, 1) := by decide +kernel
theorem dX1_place_23 : decode cX1_place 23 = .ok (.lload 4, 2) := by decide +kernel
theorem dX1_place_25 : decode cX1_place 25 = .ok (.lcmp, 1) := by decide +kernel
theorem dX1_place_26 : decode cX1_place 26 = .ok (.ifCond .ge 5, 3) := by decide +kernel
theorem dX1_place_29 : decode cX1_place 29 = .ok (.iconst 0, 1) := by decide +kernel
theorem dX1_place_30 : decode cX1_place 30 = .ok (.ireturn, 1) := by decide +kernel
theorem dX1_place_31 : decode cX1_place 31 = .ok (.aload_n 0, 1) := by decide +kernel
theorem dX1_place_32 : decode cX1_place 32 = .ok (.getfield 9, 3) := by decide +kernel
theorem dX1_place_35 : decode cX1_place 35 = .ok (.iload_n 1, 1) := by decide +kernel
theorem dX1_place_36 : decode cX1_place 36 = .ok (.lload_n 2, 1) := by decide +kernel
theorem dX1_place_37 : decode cX1_place 37 = .ok (.lastore, 1) := by decide +kernel
theorem dX1_place_38 : decode cX1_place 38 = .ok (.aload_n 0, 1) := by decide +kernel
theorem dX1_place_39 : decode cX1_place 39 = .ok (.getfield 13, 3) := by decide +kernel
theorem dX1_place_42 : decode cX1_place 42 = .ok (.iload_n 1, 1) := by decide +kernel
theorem dX1_place_43 : decode cX1_place 43 = .ok (.lload 4, 2) := by decide +kernel
theorem dX1_place_45 : decode cX1_place 45 = .ok (.lastore, 1) := by decide +kernel
theorem dX1_place_46 : decode cX1_place 46 = .ok (.iconst 1, 1) := by decide +kernel
theorem dX1_place_47 : decode cX1_place 47 = .ok (.ireturn, 1) := by decide +kernel
theorem dX1_item_0 : decode cX1_item 0 = .ok (.aload_n 0, 1) := by decide +kernel
theorem dX1_item_1 : decode cX1_item 1 = .ok (.getfield 37, 3) := by decide +kernel
theorem dX1_item_4 : decode cX1_item 4 = .ok (.sipush 200, 3) := by decide +kernel
theorem dX1_item_7 : decode cX1_item 7 = .ok (.if_icmp .lt 5, 3) := by decide +kernel
theorem dX1_item_10 : decode cX1_item 10 = .ok (.iconst (-1), 1) := by decide +kernel
theorem dX1_item_11 : decode cX1_item 11 = .ok (.ireturn, 1) := by decide +kernel
theorem dX1_item_12 : decode cX1_item 12 = .ok (.aload_n 0, 1) := by decide +kernel
theorem dX1_item_13 : decode cX1_item 13 = .ok (.getfield 18, 3) := by decide +kernel
theorem dX1_item_16 : decode cX1_item 16 = .ok (.aload_n 0, 1) := by decide +kernel
theorem dX1_item_17 : decode cX1_item 17 = .ok (.getfield 37, 3) := by decide +kernel
theorem dX1_item_20 : decode cX1_item 20 = .ok (.new 16, 3) := by decide +kernel
theorem dX1_item_23 : decode cX1_item 23 = .ok (.dup, 1) := by decide +kernel
theorem dX1_item_24 : decode cX1_item 24 = .ok (.invokespecial 41, 3) := by decide +kernel
theorem dX1_item_27 : decode cX1_item 27 = .ok (.aastore, 1) := by decide +kernel
theorem dX1_item_28 : decode cX1_item 28 = .ok (.aload_n 0, 1) := by decide +kernel
theorem dX1_item_29 : decode cX1_item 29 = .ok (.dup, 1) := by decide +kernel
theorem dX1_item_30 : decode cX1_item 30 = .ok (.getfield 37, 3) := by decide +kernel
theorem dX1_item_33 : decode cX1_item 33 = .ok (.iconst 1, 1) := by decide +kernel
theorem dX1_item_34 : decode cX1_item 34 = .ok (.iadd, 1) := by decide +kernel
theorem dX1_item_35 : decode cX1_item 35 = .ok (.putfield 37, 3) := by decide +kernel
theorem dX1_item_38 : decode cX1_item 38 = .ok (.aload_n 0, 1) := by decide +kernel
theorem dX1_item_39 : decode cX1_item 39 = .ok (.dup, 1) := by decide +kernel
theorem dX1_item_40 : decode cX1_item 40 = .ok (.getfield 42, 3) := by decide +kernel
theorem dX1_item_43 : decode cX1_item 43 = .ok (.iconst 1, 1) := by decide +kernel
theorem dX1_item_44 : decode cX1_item 44 = .ok (.iadd, 1) := by decide +kernel
theorem dX1_item_45 : decode cX1_item 45 = .ok (.putfield 42, 3) := by decide +kernel
theorem dX1_item_48 : decode cX1_item 48 = .ok (.aload_n 0, 1) := by decide +kernel
theorem dX1_item_49 : decode cX1_item 49 = .ok (.getfield 37, 3) := by decide +kernel
theorem dX1_item_52 : decode cX1_item 52 = .ok (.iconst 1, 1) := by decide +kernel
theorem dX1_item_53 : decode cX1_item 53 = .ok (.isub, 1) := by decide +kernel
theorem dX1_item_54 : decode cX1_item 54 = .ok (.ireturn, 1) := by decide +kernel
theorem dX1_net_0 : decode cX1_net 0 = .ok (.aload_n 0, 1) := by decide +kernel
theorem dX1_net_1 : decode cX1_net 1 = .ok (.iload_n 1, 1) := by decide +kernel
theorem dX1_net_2 : decode cX1_net 2 = .ok (.invokevirtual 45, 3) := by decide +kernel
theorem dX1_net_5 : decode cX1_net 5 = .ok (.astore 5, 2) := by decide +kernel
theorem dX1_net_7 : decode cX1_net 7 = .ok (.aload 5, 2) := by decide +kernel
theorem dX1_net_9 : decode cX1_net 9 = .ok (.ifnull 24, 3) := by decide +kernel
theorem dX1_net_12 : decode cX1_net 12 = .ok (.iload_n 2, 1) := by decide +kernel
theorem dX1_net_13 : decode cX1_net 13 = .ok (.invokestatic 29, 3) := by decide +kernel
theorem dX1_net_16 : decode cX1_net 16 = .ok (.ifCond .eq 17, 3) := by decide +kernel
theorem dX1_net_19 : decode cX1_net 19 = .ok (.aload 5, 2) := by decide +kernel
theorem dX1_net_21 : decode cX1_net 21 = .ok (.iload_n 2, 1) := by decide +kernel
theorem dX1_net_22 : decode cX1_net 22 = .ok (.lload_n 3, 1) := by decide +kernel
theorem dX1_net_23 : decode cX1_net 23 = .ok (.invokevirtual 49, 3) := by decide +kernel
theorem dX1_net_26 : decode cX1_net 26 = .ok (.ifCond .eq 7, 3) := by decide +kernel
theorem dX1_net_29 : decode cX1_net 29 = .ok (.iconst 1, 1) := by decide +kernel
theorem dX1_net_30 : decode cX1_net 30 = .ok (.goto 4, 3) := by decide +kernel
theorem dX1_net_33 : decode cX1_net 33 = .ok (.iconst 0, 1) := by decide +kernel
theorem dX1_net_34 : decode cX1_net 34 = .ok (.ireturn, 1) := by decide +kernel
theorem dX1_go_0 : decode cX1_go 0 = .ok (.aload_n 0, 1) := by decide +kernel
theorem dX1_go_1 : decode cX1_go 1 = .ok (.iload_n 1, 1) := by decide +kernel
theorem dX1_go_2 : decode cX1_go 2 = .ok (.invokevirtual 45, 3) := by decide +kernel
theorem dX1_go_5 : decode cX1_go 5 = .ok (.astore_n 2, 1) := by decide +kernel
theorem dX1_go_6 : decode cX1_go 6 = .ok (.aload_n 2, 1) := by decide +kernel
theorem dX1_go_7 : decode cX1_go 7 = .ok (.ifnonnull 5, 3) := by decide +kernel
theorem dX1_go_10 : decode cX1_go 10 = .ok (.iconst 0, 1) := by decide +kernel
theorem dX1_go_11 : decode cX1_go 11 = .ok (.ireturn, 1) := by decide +kernel
theorem dX1_go_12 : decode cX1_go 12 = .ok (.aload_n 2, 1) := by decide +kernel
theorem dX1_go_13 : decode cX1_go 13 = .ok (.iconst 0, 1) := by decide +kernel
theorem dX1_go_14 : decode cX1_go 14 = .ok (.putfield 53, 3) := by decide +kernel
theorem dX1_go_17 : decode cX1_go 17 = .ok (.aload_n 0, 1) := by decide +kernel
theorem dX1_go_18 : decode cX1_go 18 = .ok (.dup, 1) := by decide +kernel
theorem dX1_go_19 : decode cX1_go 19 = .ok (.getfield 42, 3) := by decide +kernel
theorem dX1_go_22 : decode cX1_go 22 = .ok (.iconst 1, 1) := by decide +kernel
theorem dX1_go_23 : decode cX1_go 23 = .ok (.isub, 1) := by decide +kernel
theorem dX1_go_24 : decode cX1_go 24 = .ok (.putfield 42, 3) := by decide +kernel
theorem dX1_go_27 : decode cX1_go 27 = .ok (.iconst 1, 1) := by decide +kernel
theorem dX1_go_28 : decode cX1_go 28 = .ok (.ireturn, 1) := by decide +kernel
theorem dX1_solve_0 : decode cX1_solve 0 = .ok (.aload_n 0, 1) := by decide +kernel
theorem dX1_solve_1 : decode cX1_solve 1 = .ok (.invokevirtual 57, 3) := by decide +kernel
theorem dX1_solve_4 : decode cX1_solve 4 = .ok (.aload_n 0, 1) := by decide +kernel
theorem dX1_solve_5 : decode cX1_solve 5 = .ok (.getfield 60, 3) := by decide +kernel
theorem dX1_solve_8 : decode cX1_solve 8 = .ok (.ireturn, 1) := by decide +kernel
theorem dX1_in_0 : decode cX1_in 0 = .ok (.aload_n 0, 1) := by decide +kernel
theorem dX1_in_1 : decode cX1_in 1 = .ok (.iload_n 1, 1) := by decide +kernel
theorem dX1_in_2 : decode cX1_in 2 = .ok (.invokevirtual 63, 3) := by decide +kernel
theorem dX1_in_5 : decode cX1_in 5 = .ok (.astore_n 2, 1) := by decide +kernel
theorem dX1_in_6 : decode cX1_in 6 = .ok (.aload_n 2, 1) := by decide +kernel
theorem dX1_in_7 : decode cX1_in 7 = .ok (.ifnull 14, 3) := by decide +kernel
theorem dX1_in_10 : decode cX1_in 10 = .ok (.aload_n 2, 1) := by decide +kernel
theorem dX1_in_11 : decode cX1_in 11 = .ok (.getfield 66, 3) := by decide +kernel
theorem dX1_in_14 : decode cX1_in 14 = .ok (.ifCond .eq 7, 3) := by decide +kernel
theorem dX1_in_17 : decode cX1_in 17 = .ok (.iconst 1, 1) := by decide +kernel
theorem dX1_in_18 : decode cX1_in 18 = .ok (.goto 4, 3) := by decide +kernel
theorem dX1_in_21 : decode cX1_in 21 = .ok (.iconst 0, 1) := by decide +kernel
theorem dX1_in_22 : decode cX1_in 22 = .ok (.ireturn, 1) := by decide +kernel
theorem dX1_perform_0 : decode cX1_perform 0 = .ok (.aload_n 0, 1) := by decide +kernel
theorem dX1_perform_1 : decode cX1_perform 1 = .ok (.invokevirtual 57, 3) := by decide +kernel
theorem dX1_perform_4 : decode cX1_perform 4 = .ok (.aload_n 0, 1) := by decide +kernel
theorem dX1_perform_5 : decode cX1_perform 5 = .ok (.invokevirtual 69, 3) := by decide +kernel
theorem dX1_perform_8 : decode cX1_perform 8 = .ok (.ifCond .ne 5, 3) := by decide +kernel
theorem dX1_perform_11 : decode cX1_perform 11 = .ok (.iconst (-1), 1) := by decide +kernel
theorem dX1_perform_12 : decode cX1_perform 12 = .ok (.ireturn, 1) := by decide +kernel
theorem dX1_perform_13 : decode cX1_perform 13 = .ok (.aload_n 0, 1) := by decide +kernel
theorem dX1_perform_14 : decode cX1_perform 14 = .ok (.getfield 22, 3) := by decide +kernel
theorem dX1_perform_17 : decode cX1_perform 17 = .ok (.iconst 0, 1) := by decide +kernel
theorem dX1_perform_18 : decode cX1_perform 18 = .ok (.aload_n 0, 1) := by decide +kernel
theorem dX1_perform_19 : decode cX1_perform 19 = .ok (.getfield 9, 3) := by decide +kernel
theorem dX1_perform_22 : decode cX1_perform 22 = .ok (.iconst 0, 1) := by decide +kernel
theorem dX1_perform_23 : decode cX1_perform 23 = .ok (.sipush 300, 3) := by decide +kernel
theorem dX1_perform_26 : decode cX1_perform 26 = .ok (.invokestatic 73, 3) := by decide +kernel
theorem dX1_perform_29 : decode cX1_perform 29 = .ok (.aload_n 0, 1) := by decide +kernel
theorem dX1_perform_30 : decode cX1_perform 30 = .ok (.invokevirtual 79, 3) := by decide +kernel
theorem dX1_perform_33 : decode cX1_perform 33 = .ok (.aload_n 0, 1) := by decide +kernel
theorem dX1_perform_34 : decode cX1_perform 34 = .ok (.getfield 60, 3) := by decide +kernel
theorem dX1_perform_37 : decode cX1_perform 37 = .ok (.ireturn, 1) := by decide +kernel
theorem dX1_value_0 : decode cX1_value 0 = .ok (.iload_n 1, 1) := by decide +kernel
theorem dX1_value_1 : decode cX1_value 1 = .ok (.invokestatic 29, 3) := by decide +kernel
theorem dX1_value_4 : decode cX1_value 4 = .ok (.ifCond .eq 12, 3) := by decide +kernel
theorem dX1_value_7 : decode cX1_value 7 = .ok (.aload_n 0, 1) := by decide +kernel
theorem dX1_value_8 : decode cX1_value 8 = .ok (.getfield 9, 3) := by decide +kernel
theorem dX1_value_11 : decode cX1_value 11 = .ok (.iload_n 1, 1) := by decide +kernel
theorem dX1_value_12 : decode cX1_value 12 = .ok (.laload, 1) := by decide +kernel
theorem dX1_value_13 : decode cX1_value 13 = .ok (.goto 4, 3) := by decide +kernel
theorem dX1_value_16 : decode cX1_value 16 = .ok (.lconst 0, 1) := by decide +kernel
theorem dX1_value_17 : decode cX1_value 17 = .ok (.lreturn, 1) := by decide +kernel
theorem dX1_netOf_0 : decode cX1_netOf 0 = .ok (.aload_n 0, 1) := by decide +kernel
theorem dX1_netOf_1 : decode cX1_netOf 1 = .ok (.iload_n 1, 1) := by decide +kernel
theorem dX1_netOf_2 : decode cX1_netOf 2 = .ok (.invokevirtual 45, 3) := by decide +kernel
theorem dX1_netOf_5 : decode cX1_netOf 5 = .ok (.astore_n 3, 1) := by decide +kernel
theorem dX1_netOf_6 : decode cX1_netOf 6 = .ok (.aload_n 3, 1) := by decide +kernel
theorem dX1_netOf_7 : decode cX1_netOf 7 = .ok (.ifnonnull 7, 3) := by decide +kernel
theorem dX1_netOf_10 : decode cX1_netOf 10 = .ok (.lconst 0, 1) := by decide +kernel
theorem dX1_netOf_11 : decode cX1_netOf 11 = .ok (.goto 8, 3) := by decide +kernel
theorem dX1_netOf_14 : decode cX1_netOf 14 = .ok (.aload_n 3, 1) := by decide +kernel
theorem dX1_netOf_15 : decode cX1_netOf 15 = .ok (.iload_n 2, 1) := by decide +kernel
theorem dX1_netOf_16 : decode cX1_netOf 16 = .ok (.invokevirtual 82, 3) := by decide +kernel
theorem dX1_netOf_19 : decode cX1_netOf 19 = .ok (.lreturn, 1) := by decide +kernel
theorem dX1_count_0 : decode cX1_count 0 = .ok (.iload_n 1, 1) := by decide +kernel
theorem dX1_count_1 : decode cX1_count 1 = .ok (.tableswitch 42 0 2 #[27, 32, 37], 27) := by decide +kernel
theorem dX1_count_28 : decode cX1_count 28 = .ok (.aload_n 0, 1) := by decide +kernel
theorem dX1_count_29 : decode cX1_count 29 = .ok (.getfield 37, 3) := by decide +kernel
theorem dX1_count_32 : decode cX1_count 32 = .ok (.ireturn, 1) := by decide +kernel
theorem dX1_count_33 : decode cX1_count 33 = .ok (.aload_n 0, 1) := by decide +kernel
theorem dX1_count_34 : decode cX1_count 34 = .ok (.getfield 42, 3) := by decide +kernel
theorem dX1_count_37 : decode cX1_count 37 = .ok (.ireturn, 1) := by decide +kernel
theorem dX1_count_38 : decode cX1_count 38 = .ok (.aload_n 0, 1) := by decide +kernel
theorem dX1_count_39 : decode cX1_count 39 = .ok (.getfield 60, 3) := by decide +kernel
theorem dX1_count_42 : decode cX1_count 42 = .ok (.ireturn, 1) := by decide +kernel
theorem dX1_count_43 : decode cX1_count 43 = .ok (.iconst (-1), 1) := by decide +kernel
theorem dX1_count_44 : decode cX1_count 44 = .ok (.ireturn, 1) := by decide +kernel
theorem dX1_isPosition_0 : decode cX1_isPosition 0 = .ok (.iload_n 0, 1) := by decide +kernel
theorem dX1_isPosition_1 : decode cX1_isPosition 1 = .ok (.ifCond .lt 14, 3) := by decide +kernel
theorem dX1_isPosition_4 : decode cX1_isPosition 4 = .ok (.iload_n 0, 1) := by decide +kernel
theorem dX1_isPosition_5 : decode cX1_isPosition 5 = .ok (.sipush 300, 3) := by decide +kernel
theorem dX1_isPosition_8 : decode cX1_isPosition 8 = .ok (.if_icmp .ge 7, 3) := by decide +kernel
theorem dX1_isPosition_11 : decode cX1_isPosition 11 = .ok (.iconst 1, 1) := by decide +kernel
theorem dX1_isPosition_12 : decode cX1_isPosition 12 = .ok (.goto 4, 3) := by decide +kernel
theorem dX1_isPosition_15 : decode cX1_isPosition 15 = .ok (.iconst 0, 1) := by decide +kernel
theorem dX1_isPosition_16 : decode cX1_isPosition 16 = .ok (.ireturn, 1) := by decide +kernel
theorem dX1_isValue_0 : decode cX1_isValue 0 = .ok (.lload_n 0, 1) := by decide +kernel
theorem dX1_isValue_1 : decode cX1_isValue 1 = .ok (.ldc2_w 86, 3) := by decide +kernel
theorem dX1_isValue_4 : decode cX1_isValue 4 = .ok (.lcmp, 1) := by decide +kernel
theorem dX1_isValue_5 : decode cX1_isValue 5 = .ok (.ifCond .lt 15, 3) := by decide +kernel
theorem dX1_isValue_8 : decode cX1_isValue 8 = .ok (.lload_n 0, 1) := by decide +kernel
theorem dX1_isValue_9 : decode cX1_isValue 9 = .ok (.ldc2_w 88, 3) := by decide +kernel
theorem dX1_isValue_12 : decode cX1_isValue 12 = .ok (.lcmp, 1) := by decide +kernel
theorem dX1_isValue_13 : decode cX1_isValue 13 = .ok (.ifCond .gt 7, 3) := by decide +kernel
theorem dX1_isValue_16 : decode cX1_isValue 16 = .ok (.iconst 1, 1) := by decide +kernel
theorem dX1_isValue_17 : decode cX1_isValue 17 = .ok (.goto 4, 3) := by decide +kernel
theorem dX1_isValue_20 : decode cX1_isValue 20 = .ok (.iconst 0, 1) := by decide +kernel
theorem dX1_isValue_21 : decode cX1_isValue 21 = .ok (.ireturn, 1) := by decide +kernel
theorem dX1_itemEver_0 : decode cX1_itemEver 0 = .ok (.iload_n 1, 1) := by decide +kernel
theorem dX1_itemEver_1 : decode cX1_itemEver 1 = .ok (.ifCond .lt 20, 3) := by decide +kernel
theorem dX1_itemEver_4 : decode cX1_itemEver 4 = .ok (.iload_n 1, 1) := by decide +kernel
theorem dX1_itemEver_5 : decode cX1_itemEver 5 = .ok (.aload_n 0, 1) := by decide +kernel
theorem dX1_itemEver_6 : decode cX1_itemEver 6 = .ok (.getfield 37, 3) := by decide +kernel
theorem dX1_itemEver_9 : decode cX1_itemEver 9 = .ok (.if_icmp .ge 12, 3) := by decide +kernel
theorem dX1_itemEver_12 : decode cX1_itemEver 12 = .ok (.aload_n 0, 1) := by decide +kernel
theorem dX1_itemEver_13 : decode cX1_itemEver 13 = .ok (.getfield 18, 3) := by decide +kernel
theorem dX1_itemEver_16 : decode cX1_itemEver 16 = .ok (.iload_n 1, 1) := by decide +kernel
theorem dX1_itemEver_17 : decode cX1_itemEver 17 = .ok (.aaload, 1) := by decide +kernel
theorem dX1_itemEver_18 : decode cX1_itemEver 18 = .ok (.goto 4, 3) := by decide +kernel
theorem dX1_itemEver_21 : decode cX1_itemEver 21 = .ok (.aconst_null, 1) := by decide +kernel
theorem dX1_itemEver_22 : decode cX1_itemEver 22 = .ok (.areturn, 1) := by decide +kernel
theorem dX1_itemThere_0 : decode cX1_itemThere 0 = .ok (.aload_n 0, 1) := by decide +kernel
theorem dX1_itemThere_1 : decode cX1_itemThere 1 = .ok (.iload_n 1, 1) := by decide +kernel
theorem dX1_itemThere_2 : decode cX1_itemThere 2 = .ok (.invokevirtual 63, 3) := by decide +kernel
theorem dX1_itemThere_5 : decode cX1_itemThere 5 = .ok (.astore_n 2, 1) := by decide +kernel
theorem dX1_itemThere_6 : decode cX1_itemThere 6 = .ok (.aload_n 2, 1) := by decide +kernel
theorem dX1_itemThere_7 : decode cX1_itemThere 7 = .ok (.ifnull 14, 3) := by decide +kernel
theorem dX1_itemThere_10 : decode cX1_itemThere 10 = .ok (.aload_n 2, 1) := by decide +kernel
theorem dX1_itemThere_11 : decode cX1_itemThere 11 = .ok (.getfield 53, 3) := by decide +kernel
theorem dX1_itemThere_14 : decode cX1_itemThere 14 = .ok (.ifCond .eq 7, 3) := by decide +kernel
theorem dX1_itemThere_17 : decode cX1_itemThere 17 = .ok (.aload_n 2, 1) := by decide +kernel
theorem dX1_itemThere_18 : decode cX1_itemThere 18 = .ok (.goto 4, 3) := by decide +kernel
theorem dX1_itemThere_21 : decode cX1_itemThere 21 = .ok (.aconst_null, 1) := by decide +kernel
theorem dX1_itemThere_22 : decode cX1_itemThere 22 = .ok (.areturn, 1) := by decide +kernel
theorem dX1_findGreatest_0 : decode cX1_findGreatest 0 = .ok (.aload_n 0, 1) := by decide +kernel
theorem dX1_findGreatest_1 : decode cX1_findGreatest 1 = .ok (.invokevirtual 90, 3) := by decide +kernel
theorem dX1_findGreatest_4 : decode cX1_findGreatest 4 = .ok (.iconst 0, 1) := by decide +kernel
theorem dX1_findGreatest_5 : decode cX1_findGreatest 5 = .ok (.istore_n 1, 1) := by decide +kernel
theorem dX1_findGreatest_6 : decode cX1_findGreatest 6 = .ok (.iload_n 1, 1) := by decide +kernel
theorem dX1_findGreatest_7 : decode cX1_findGreatest 7 = .ok (.sipush 200, 3) := by decide +kernel
theorem dX1_findGreatest_10 : decode cX1_findGreatest 10 = .ok (.if_icmp .gt 19, 3) := by decide +kernel
theorem dX1_findGreatest_13 : decode cX1_findGreatest 13 = .ok (.aload_n 0, 1) := by decide +kernel
theorem dX1_findGreatest_14 : decode cX1_findGreatest 14 = .ok (.invokevirtual 93, 3) := by decide +kernel
theorem dX1_findGreatest_17 : decode cX1_findGreatest 17 = .ok (.ifCond .ne 6, 3) := by decide +kernel
theorem dX1_findGreatest_20 : decode cX1_findGreatest 20 = .ok (.goto 9, 3) := by decide +kernel
theorem dX1_findGreatest_23 : decode cX1_findGreatest 23 = .ok (.iinc 1 1, 3) := by decide +kernel
theorem dX1_findGreatest_26 : decode cX1_findGreatest 26 = .ok (.goto (-20), 3) := by decide +kernel
theorem dX1_findGreatest_29 : decode cX1_findGreatest 29 = .ok (.return_, 1) := by decide +kernel
theorem dX1_startWithAllThere_0 : decode cX1_startWithAllThere 0 = .ok (.iconst 0, 1) := by decide +kernel
theorem dX1_startWithAllThere_1 : decode cX1_startWithAllThere 1 = .ok (.istore_n 1, 1) := by decide +kernel
theorem dX1_startWithAllThere_2 : decode cX1_startWithAllThere 2 = .ok (.iload_n 1, 1) := by decide +kernel
theorem dX1_startWithAllThere_3 : decode cX1_startWithAllThere 3 = .ok (.aload_n 0, 1) := by decide +kernel
theorem dX1_startWithAllThere_4 : decode cX1_startWithAllThere 4 = .ok (.getfield 37, 3) := by decide +kernel
theorem dX1_startWithAllThere_7 : decode cX1_startWithAllThere 7 = .ok (.if_icmp .ge 28, 3) := by decide +kernel
theorem dX1_startWithAllThere_10 : decode cX1_startWithAllThere 10 = .ok (.aload_n 0, 1) := by decide +kernel
theorem dX1_startWithAllThere_11 : decode cX1_startWithAllThere 11 = .ok (.getfield 18, 3) := by decide +kernel
theorem dX1_startWithAllThere_14 : decode cX1_startWithAllThere 14 = .ok (.iload_n 1, 1) := by decide +kernel
theorem dX1_startWithAllThere_15 : decode cX1_startWithAllThere 15 = .ok (.aaload, 1) := by decide +kernel
theorem dX1_startWithAllThere_16 : decode cX1_startWithAllThere 16 = .ok (.astore_n 2, 1) := by decide +kernel
theorem dX1_startWithAllThere_17 : decode cX1_startWithAllThere 17 = .ok (.aload_n 2, 1) := by decide +kernel
theorem dX1_startWithAllThere_18 : decode cX1_startWithAllThere 18 = .ok (.ifnull 11, 3) := by decide +kernel
theorem dX1_startWithAllThere_21 : decode cX1_startWithAllThere 21 = .ok (.aload_n 2, 1) := by decide +kernel
theorem dX1_startWithAllThere_22 : decode cX1_startWithAllThere 22 = .ok (.aload_n 2, 1) := by decide +kernel
theorem dX1_startWithAllThere_23 : decode cX1_startWithAllThere 23 = .ok (.getfield 53, 3) := by decide +kernel
theorem dX1_startWithAllThere_26 : decode cX1_startWithAllThere 26 = .ok (.putfield 66, 3) := by decide +kernel
theorem dX1_startWithAllThere_29 : decode cX1_startWithAllThere 29 = .ok (.iinc 1 1, 3) := by decide +kernel
theorem dX1_startWithAllThere_32 : decode cX1_startWithAllThere 32 = .ok (.goto (-30), 3) := by decide +kernel
theorem dX1_startWithAllThere_35 : decode cX1_startWithAllThere 35 = .ok (.aload_n 0, 1) := by decide +kernel
theorem dX1_startWithAllThere_36 : decode cX1_startWithAllThere 36 = .ok (.aload_n 0, 1) := by decide +kernel
theorem dX1_startWithAllThere_37 : decode cX1_startWithAllThere 37 = .ok (.getfield 42, 3) := by decide +kernel
theorem dX1_startWithAllThere_40 : decode cX1_startWithAllThere 40 = .ok (.putfield 60, 3) := by decide +kernel
theorem dX1_startWithAllThere_43 : decode cX1_startWithAllThere 43 = .ok (.return_, 1) := by decide +kernel
theorem dX1_dropHopeless_0 : decode cX1_dropHopeless 0 = .ok (.aload_n 0, 1) := by decide +kernel
theorem dX1_dropHopeless_1 : decode cX1_dropHopeless 1 = .ok (.invokevirtual 96, 3) := by decide +kernel
theorem dX1_dropHopeless_4 : decode cX1_dropHopeless 4 = .ok (.aload_n 0, 1) := by decide +kernel
theorem dX1_dropHopeless_5 : decode cX1_dropHopeless 5 = .ok (.invokevirtual 99, 3) := by decide +kernel
theorem dX1_dropHopeless_8 : decode cX1_dropHopeless 8 = .ok (.aload_n 0, 1) := by decide +kernel
theorem dX1_dropHopeless_9 : decode cX1_dropHopeless 9 = .ok (.getfield 60, 3) := by decide +kernel
theorem dX1_dropHopeless_12 : decode cX1_dropHopeless 12 = .ok (.istore_n 1, 1) := by decide +kernel
theorem dX1_dropHopeless_13 : decode cX1_dropHopeless 13 = .ok (.iconst 0, 1) := by decide +kernel
theorem dX1_dropHopeless_14 : decode cX1_dropHopeless 14 = .ok (.istore_n 2, 1) := by decide +kernel
theorem dX1_dropHopeless_15 : decode cX1_dropHopeless 15 = .ok (.iload_n 2, 1) := by decide +kernel
theorem dX1_dropHopeless_16 : decode cX1_dropHopeless 16 = .ok (.aload_n 0, 1) := by decide +kernel
theorem dX1_dropHopeless_17 : decode cX1_dropHopeless 17 = .ok (.getfield 37, 3) := by decide +kernel
theorem dX1_dropHopeless_20 : decode cX1_dropHopeless 20 = .ok (.if_icmp .ge 58, 3) := by decide +kernel
theorem dX1_dropHopeless_23 : decode cX1_dropHopeless 23 = .ok (.aload_n 0, 1) := by decide +kernel
theorem dX1_dropHopeless_24 : decode cX1_dropHopeless 24 = .ok (.getfield 18, 3) := by decide +kernel
theorem dX1_dropHopeless_27 : decode cX1_dropHopeless 27 = .ok (.iload_n 2, 1) := by decide +kernel
theorem dX1_dropHopeless_28 : decode cX1_dropHopeless 28 = .ok (.aaload, 1) := by decide +kernel
theorem dX1_dropHopeless_29 : decode cX1_dropHopeless 29 = .ok (.astore_n 3, 1) := by decide +kernel
theorem dX1_dropHopeless_30 : decode cX1_dropHopeless 30 = .ok (.aload_n 3, 1) := by decide +kernel
theorem dX1_dropHopeless_31 : decode cX1_dropHopeless 31 = .ok (.ifnull 41, 3) := by decide +kernel
theorem dX1_dropHopeless_34 : decode cX1_dropHopeless 34 = .ok (.aload_n 3, 1) := by decide +kernel
theorem dX1_dropHopeless_35 : decode cX1_dropHopeless 35 = .ok (.getfield 53, 3) := by decide +kernel
theorem dX1_dropHopeless_38 : decode cX1_dropHopeless 38 = .ok (.ifCond .ne 6, 3) := by decide +kernel
theorem dX1_dropHopeless_41 : decode cX1_dropHopeless 41 = .ok (.goto 31, 3) := by decide +kernel
theorem dX1_dropHopeless_44 : decode cX1_dropHopeless 44 = .ok (.aload_n 3, 1) := by decide +kernel
theorem dX1_dropHopeless_45 : decode cX1_dropHopeless 45 = .ok (.getfield 66, 3) := by decide +kernel
theorem dX1_dropHopeless_48 : decode cX1_dropHopeless 48 = .ok (.ifCond .eq 19, 3) := by decide +kernel
theorem dX1_dropHopeless_51 : decode cX1_dropHopeless 51 = .ok (.aload_n 0, 1) := by decide +kernel
theorem dX1_dropHopeless_52 : decode cX1_dropHopeless 52 = .ok (.aload_n 3, 1) := by decide +kernel
theorem dX1_dropHopeless_53 : decode cX1_dropHopeless 53 = .ok (.invokevirtual 102, 3) := by decide +kernel
theorem dX1_dropHopeless_56 : decode cX1_dropHopeless 56 = .ok (.ifCond .eq 11, 3) := by decide +kernel
theorem dX1_dropHopeless_59 : decode cX1_dropHopeless 59 = .ok (.aload_n 0, 1) := by decide +kernel
theorem dX1_dropHopeless_60 : decode cX1_dropHopeless 60 = .ok (.aload_n 3, 1) := by decide +kernel
theorem dX1_dropHopeless_61 : decode cX1_dropHopeless 61 = .ok (.invokevirtual 106, 3) := by decide +kernel
theorem dX1_dropHopeless_64 : decode cX1_dropHopeless 64 = .ok (.goto 8, 3) := by decide +kernel
theorem dX1_dropHopeless_67 : decode cX1_dropHopeless 67 = .ok (.aload_n 0, 1) := by decide +kernel
theorem dX1_dropHopeless_68 : decode cX1_dropHopeless 68 = .ok (.aload_n 3, 1) := by decide +kernel
theorem dX1_dropHopeless_69 : decode cX1_dropHopeless 69 = .ok (.invokevirtual 110, 3) := by decide +kernel
theorem dX1_dropHopeless_72 : decode cX1_dropHopeless 72 = .ok (.iinc 2 1, 3) := by decide +kernel
theorem dX1_dropHopeless_75 : decode cX1_dropHopeless 75 = .ok (.goto (-60), 3) := by decide +kernel
theorem dX1_dropHopeless_78 : decode cX1_dropHopeless 78 = .ok (.aload_n 0, 1) := by decide +kernel
theorem dX1_dropHopeless_79 : decode cX1_dropHopeless 79 = .ok (.getfield 60, 3) := by decide +kernel
theorem dX1_dropHopeless_82 : decode cX1_dropHopeless 82 = .ok (.iload_n 1, 1) := by decide +kernel
theorem dX1_dropHopeless_83 : decode cX1_dropHopeless 83 = .ok (.if_icmp .ge 7, 3) := by decide +kernel
theorem dX1_dropHopeless_86 : decode cX1_dropHopeless 86 = .ok (.iconst 1, 1) := by decide +kernel
theorem dX1_dropHopeless_87 : decode cX1_dropHopeless 87 = .ok (.goto 4, 3) := by decide +kernel
theorem dX1_dropHopeless_90 : decode cX1_dropHopeless 90 = .ok (.iconst 0, 1) := by decide +kernel
theorem dX1_dropHopeless_91 : decode cX1_dropHopeless 91 = .ok (.ireturn, 1) := by decide +kernel
theorem dX1_startRows_0 : decode cX1_startRows 0 = .ok (.iconst 0, 1) := by decide +kernel
theorem dX1_startRows_1 : decode cX1_startRows 1 = .ok (.istore_n 1, 1) := by decide +kernel
theorem dX1_startRows_2 : decode cX1_startRows 2 = .ok (.iload_n 1, 1) := by decide +kernel
theorem dX1_startRows_3 : decode cX1_startRows 3 = .ok (.sipush 300, 3) := by decide +kernel
theorem dX1_startRows_6 : decode cX1_startRows 6 = .ok (.if_icmp .ge 28, 3) := by decide +kernel
theorem dX1_startRows_9 : decode cX1_startRows 9 = .ok (.aload_n 0, 1) := by decide +kernel
theorem dX1_startRows_10 : decode cX1_startRows 10 = .ok (.getfield 22, 3) := by decide +kernel
theorem dX1_startRows_13 : decode cX1_startRows 13 = .ok (.iload_n 1, 1) := by decide +kernel
theorem dX1_startRows_14 : decode cX1_startRows 14 = .ok (.aload_n 0, 1) := by decide +kernel
theorem dX1_startRows_15 : decode cX1_startRows 15 = .ok (.getfield 9, 3) := by decide +kernel
theorem dX1_startRows_18 : decode cX1_startRows 18 = .ok (.iload_n 1, 1) := by decide +kernel
theorem dX1_startRows_19 : decode cX1_startRows 19 = .ok (.laload, 1) := by decide +kernel
theorem dX1_startRows_20 : decode cX1_startRows 20 = .ok (.lastore, 1) := by decide +kernel
theorem dX1_startRows_21 : decode cX1_startRows 21 = .ok (.aload_n 0, 1) := by decide +kernel
theorem dX1_startRows_22 : decode cX1_startRows 22 = .ok (.getfield 25, 3) := by decide +kernel
theorem dX1_startRows_25 : decode cX1_startRows 25 = .ok (.iload_n 1, 1) := by decide +kernel
theorem dX1_startRows_26 : decode cX1_startRows 26 = .ok (.iconst 0, 1) := by decide +kernel
theorem dX1_startRows_27 : decode cX1_startRows 27 = .ok (.bastore, 1) := by decide +kernel
theorem dX1_startRows_28 : decode cX1_startRows 28 = .ok (.iinc 1 1, 3) := by decide +kernel
theorem dX1_startRows_31 : decode cX1_startRows 31 = .ok (.goto (-29), 3) := by decide +kernel
theorem dX1_startRows_34 : decode cX1_startRows 34 = .ok (.return_, 1) := by decide +kernel
theorem dX1_giveAll_0 : decode cX1_giveAll 0 = .ok (.iconst 0, 1) := by decide +kernel
theorem dX1_giveAll_1 : decode cX1_giveAll 1 = .ok (.istore_n 1, 1) := by decide +kernel
theorem dX1_giveAll_2 : decode cX1_giveAll 2 = .ok (.iload_n 1, 1) := by decide +kernel
theorem dX1_giveAll_3 : decode cX1_giveAll 3 = .ok (.aload_n 0, 1) := by decide +kernel
theorem dX1_giveAll_4 : decode cX1_giveAll 4 = .ok (.getfield 37, 3) := by decide +kernel
theorem dX1_giveAll_7 : decode cX1_giveAll 7 = .ok (.if_icmp .ge 77, 3) := by decide +kernel
theorem dX1_giveAll_10 : decode cX1_giveAll 10 = .ok (.aload_n 0, 1) := by decide +kernel
theorem dX1_giveAll_11 : decode cX1_giveAll 11 = .ok (.getfield 18, 3) := by decide +kernel
theorem dX1_giveAll_14 : decode cX1_giveAll 14 = .ok (.iload_n 1, 1) := by decide +kernel
theorem dX1_giveAll_15 : decode cX1_giveAll 15 = .ok (.aaload, 1) := by decide +kernel
theorem dX1_giveAll_16 : decode cX1_giveAll 16 = .ok (.astore_n 2, 1) := by decide +kernel
theorem dX1_giveAll_17 : decode cX1_giveAll 17 = .ok (.aload_n 2, 1) := by decide +kernel
theorem dX1_giveAll_18 : decode cX1_giveAll 18 = .ok (.ifnull 60, 3) := by decide +kernel
theorem dX1_giveAll_21 : decode cX1_giveAll 21 = .ok (.aload_n 2, 1) := by decide +kernel
theorem dX1_giveAll_22 : decode cX1_giveAll 22 = .ok (.getfield 66, 3) := by decide +kernel
theorem dX1_giveAll_25 : decode cX1_giveAll 25 = .ok (.ifCond .ne 6, 3) := by decide +kernel
theorem dX1_giveAll_28 : decode cX1_giveAll 28 = .ok (.goto 50, 3) := by decide +kernel
theorem dX1_giveAll_31 : decode cX1_giveAll 31 = .ok (.iconst 0, 1) := by decide +kernel
theorem dX1_giveAll_32 : decode cX1_giveAll 32 = .ok (.istore_n 3, 1) := by decide +kernel
theorem dX1_giveAll_33 : decode cX1_giveAll 33 = .ok (.iload_n 3, 1) := by decide +kernel
theorem dX1_giveAll_34 : decode cX1_giveAll 34 = .ok (.aload_n 2, 1) := by decide +kernel
theorem dX1_giveAll_35 : decode cX1_giveAll 35 = .ok (.getfield 113, 3) := by decide +kernel
theorem dX1_giveAll_38 : decode cX1_giveAll 38 = .ok (.if_icmp .ge 40, 3) := by decide +kernel
theorem dX1_giveAll_41 : decode cX1_giveAll 41 = .ok (.aload_n 2, 1) := by decide +kernel
theorem dX1_giveAll_42 : decode cX1_giveAll 42 = .ok (.getfield 116, 3) := by decide +kernel
theorem dX1_giveAll_45 : decode cX1_giveAll 45 = .ok (.iload_n 3, 1) := by decide +kernel
theorem dX1_giveAll_46 : decode cX1_giveAll 46 = .ok (.laload, 1) := by decide +kernel
theorem dX1_giveAll_47 : decode cX1_giveAll 47 = .ok (.lconst 0, 1) := by decide +kernel
theorem dX1_giveAll_48 : decode cX1_giveAll 48 = .ok (.lcmp, 1) := by decide +kernel
theorem dX1_giveAll_49 : decode cX1_giveAll 49 = .ok (.ifCond .le 23, 3) := by decide +kernel
theorem dX1_giveAll_52 : decode cX1_giveAll 52 = .ok (.aload_n 0, 1) := by decide +kernel
theorem dX1_giveAll_53 : decode cX1_giveAll 53 = .ok (.getfield 22, 3) := by decide +kernel
theorem dX1_giveAll_56 : decode cX1_giveAll 56 = .ok (.aload_n 2, 1) := by decide +kernel
theorem dX1_giveAll_57 : decode cX1_giveAll 57 = .ok (.getfield 119, 3) := by decide +kernel
theorem dX1_giveAll_60 : decode cX1_giveAll 60 = .ok (.iload_n 3, 1) := by decide +kernel
theorem dX1_giveAll_61 : decode cX1_giveAll 61 = .ok (.iaload, 1) := by decide +kernel
theorem dX1_giveAll_62 : decode cX1_giveAll 62 = .ok (.dup2, 1) := by decide +kernel
theorem dX1_giveAll_63 : decode cX1_giveAll 63 = .ok (.laload, 1) := by decide +kernel
theorem dX1_giveAll_64 : decode cX1_giveAll 64 = .ok (.aload_n 2, 1) := by decide +kernel
theorem dX1_giveAll_65 : decode cX1_giveAll 65 = .ok (.getfield 116, 3) := by decide +kernel
theorem dX1_giveAll_68 : decode cX1_giveAll 68 = .ok (.iload_n 3, 1) := by decide +kernel
theorem dX1_giveAll_69 : decode cX1_giveAll 69 = .ok (.laload, 1) := by decide +kernel
theorem dX1_giveAll_70 : decode cX1_giveAll 70 = .ok (.ladd, 1) := by decide +kernel
theorem dX1_giveAll_71 : decode cX1_giveAll 71 = .ok (.lastore, 1) := by decide +kernel
theorem dX1_giveAll_72 : decode cX1_giveAll 72 = .ok (.iinc 3 1, 3) := by decide +kernel
theorem dX1_giveAll_75 : decode cX1_giveAll 75 = .ok (.goto (-42), 3) := by decide +kernel
theorem dX1_giveAll_78 : decode cX1_giveAll 78 = .ok (.iinc 1 1, 3) := by decide +kernel
theorem dX1_giveAll_81 : decode cX1_giveAll 81 = .ok (.goto (-79), 3) := by decide +kernel
theorem dX1_giveAll_84 : decode cX1_giveAll 84 = .ok (.return_, 1) := by decide +kernel
theorem dX1_canTake_0 : decode cX1_canTake 0 = .ok (.iconst 0, 1) := by decide +kernel
theorem dX1_canTake_1 : decode cX1_canTake 1 = .ok (.istore_n 2, 1) := by decide +kernel
theorem dX1_canTake_2 : decode cX1_canTake 2 = .ok (.iload_n 2, 1) := by decide +kernel
theorem dX1_canTake_3 : decode cX1_canTake 3 = .ok (.aload_n 1, 1) := by decide +kernel
theorem dX1_canTake_4 : decode cX1_canTake 4 = .ok (.getfield 113, 3) := by decide +kernel
theorem dX1_canTake_7 : decode cX1_canTake 7 = .ok (.if_icmp .ge 61, 3) := by decide +kernel
theorem dX1_canTake_10 : decode cX1_canTake 10 = .ok (.aload_n 1, 1) := by decide +kernel
theorem dX1_canTake_11 : decode cX1_canTake 11 = .ok (.getfield 119, 3) := by decide +kernel
theorem dX1_canTake_14 : decode cX1_canTake 14 = .ok (.iload_n 2, 1) := by decide +kernel
theorem dX1_canTake_15 : decode cX1_canTake 15 = .ok (.iaload, 1) := by decide +kernel
theorem dX1_canTake_16 : decode cX1_canTake 16 = .ok (.istore_n 3, 1) := by decide +kernel
theorem dX1_canTake_17 : decode cX1_canTake 17 = .ok (.aload_n 1, 1) := by decide +kernel
theorem dX1_canTake_18 : decode cX1_canTake 18 = .ok (.getfield 116, 3) := by decide +kernel
theorem dX1_canTake_21 : decode cX1_canTake 21 = .ok (.iload_n 2, 1) := by decide +kernel
theorem dX1_canTake_22 : decode cX1_canTake 22 = .ok (.laload, 1) := by decide +kernel
theorem dX1_canTake_23 : decode cX1_canTake 23 = .ok (.lstore 4, 2) := by decide +kernel
theorem dX1_canTake_25 : decode cX1_canTake 25 = .ok (.lload 4, 2) := by decide +kernel
theorem dX1_canTake_27 : decode cX1_canTake 27 = .ok (.lconst 0, 1) := by decide +kernel
theorem dX1_canTake_28 : decode cX1_canTake 28 = .ok (.lcmp, 1) := by decide +kernel
theorem dX1_canTake_29 : decode cX1_canTake 29 = .ok (.ifCond .ge 33, 3) := by decide +kernel
theorem dX1_canTake_32 : decode cX1_canTake 32 = .ok (.aload_n 0, 1) := by decide +kernel
theorem dX1_canTake_33 : decode cX1_canTake 33 = .ok (.getfield 25, 3) := by decide +kernel
theorem dX1_canTake_36 : decode cX1_canTake 36 = .ok (.iload_n 3, 1) := by decide +kernel
theorem dX1_canTake_37 : decode cX1_canTake 37 = .ok (.baload, 1) := by decide +kernel
theorem dX1_canTake_38 : decode cX1_canTake 38 = .ok (.ifCond .ne 22, 3) := by decide +kernel
theorem dX1_canTake_41 : decode cX1_canTake 41 = .ok (.aload_n 0, 1) := by decide +kernel
theorem dX1_canTake_42 : decode cX1_canTake 42 = .ok (.getfield 22, 3) := by decide +kernel
theorem dX1_canTake_45 : decode cX1_canTake 45 = .ok (.iload_n 3, 1) := by decide +kernel
theorem dX1_canTake_46 : decode cX1_canTake 46 = .ok (.laload, 1) := by decide +kernel
theorem dX1_canTake_47 : decode cX1_canTake 47 = .ok (.lload 4, 2) := by decide +kernel
theorem dX1_canTake_49 : decode cX1_canTake 49 = .ok (.ladd, 1) := by decide +kernel
theorem dX1_canTake_50 : decode cX1_canTake 50 = .ok (.aload_n 0, 1) := by decide +kernel
theorem dX1_canTake_51 : decode cX1_canTake 51 = .ok (.getfield 13, 3) := by decide +kernel
theorem dX1_canTake_54 : decode cX1_canTake 54 = .ok (.iload_n 3, 1) := by decide +kernel
theorem dX1_canTake_55 : decode cX1_canTake 55 = .ok (.laload, 1) := by decide +kernel
theorem dX1_canTake_56 : decode cX1_canTake 56 = .ok (.lcmp, 1) := by decide +kernel
theorem dX1_canTake_57 : decode cX1_canTake 57 = .ok (.ifCond .ge 5, 3) := by decide +kernel
theorem dX1_canTake_60 : decode cX1_canTake 60 = .ok (.iconst 0, 1) := by decide +kernel
theorem dX1_canTake_61 : decode cX1_canTake 61 = .ok (.ireturn, 1) := by decide +kernel
theorem dX1_canTake_62 : decode cX1_canTake 62 = .ok (.iinc 2 1, 3) := by decide +kernel
theorem dX1_canTake_65 : decode cX1_canTake 65 = .ok (.goto (-63), 3) := by decide +kernel
theorem dX1_canTake_68 : decode cX1_canTake 68 = .ok (.iconst 1, 1) := by decide +kernel
theorem dX1_canTake_69 : decode cX1_canTake 69 = .ok (.ireturn, 1) := by decide +kernel
theorem dX1_take_0 : decode cX1_take 0 = .ok (.iconst 0, 1) := by decide +kernel
theorem dX1_take_1 : decode cX1_take 1 = .ok (.istore_n 2, 1) := by decide +kernel
theorem dX1_take_2 : decode cX1_take 2 = .ok (.iload_n 2, 1) := by decide +kernel
theorem dX1_take_3 : decode cX1_take 3 = .ok (.aload_n 1, 1) := by decide +kernel
theorem dX1_take_4 : decode cX1_take 4 = .ok (.getfield 113, 3) := by decide +kernel
theorem dX1_take_7 : decode cX1_take 7 = .ok (.if_icmp .ge 40, 3) := by decide +kernel
theorem dX1_take_10 : decode cX1_take 10 = .ok (.aload_n 1, 1) := by decide +kernel
theorem dX1_take_11 : decode cX1_take 11 = .ok (.getfield 116, 3) := by decide +kernel
theorem dX1_take_14 : decode cX1_take 14 = .ok (.iload_n 2, 1) := by decide +kernel
theorem dX1_take_15 : decode cX1_take 15 = .ok (.laload, 1) := by decide +kernel
theorem dX1_take_16 : decode cX1_take 16 = .ok (.lconst 0, 1) := by decide +kernel
theorem dX1_take_17 : decode cX1_take 17 = .ok (.lcmp, 1) := by decide +kernel
theorem dX1_take_18 : decode cX1_take 18 = .ok (.ifCond .ge 23, 3) := by decide +kernel
theorem dX1_take_21 : decode cX1_take 21 = .ok (.aload_n 0, 1) := by decide +kernel
theorem dX1_take_22 : decode cX1_take 22 = .ok (.getfield 22, 3) := by decide +kernel
theorem dX1_take_25 : decode cX1_take 25 = .ok (.aload_n 1, 1) := by decide +kernel
theorem dX1_take_26 : decode cX1_take 26 = .ok (.getfield 119, 3) := by decide +kernel
theorem dX1_take_29 : decode cX1_take 29 = .ok (.iload_n 2, 1) := by decide +kernel
theorem dX1_take_30 : decode cX1_take 30 = .ok (.iaload, 1) := by decide +kernel
theorem dX1_take_31 : decode cX1_take 31 = .ok (.dup2, 1) := by decide +kernel
theorem dX1_take_32 : decode cX1_take 32 = .ok (.laload, 1) := by decide +kernel
theorem dX1_take_33 : decode cX1_take 33 = .ok (.aload_n 1, 1) := by decide +kernel
theorem dX1_take_34 : decode cX1_take 34 = .ok (.getfield 116, 3) := by decide +kernel
theorem dX1_take_37 : decode cX1_take 37 = .ok (.iload_n 2, 1) := by decide +kernel
theorem dX1_take_38 : decode cX1_take 38 = .ok (.laload, 1) := by decide +kernel
theorem dX1_take_39 : decode cX1_take 39 = .ok (.ladd, 1) := by decide +kernel
theorem dX1_take_40 : decode cX1_take 40 = .ok (.lastore, 1) := by decide +kernel
theorem dX1_take_41 : decode cX1_take 41 = .ok (.iinc 2 1, 3) := by decide +kernel
theorem dX1_take_44 : decode cX1_take 44 = .ok (.goto (-42), 3) := by decide +kernel
theorem dX1_take_47 : decode cX1_take 47 = .ok (.return_, 1) := by decide +kernel
theorem dX1_drop_0 : decode cX1_drop 0 = .ok (.iconst 0, 1) := by decide +kernel
theorem dX1_drop_1 : decode cX1_drop 1 = .ok (.istore_n 2, 1) := by decide +kernel
theorem dX1_drop_2 : decode cX1_drop 2 = .ok (.iload_n 2, 1) := by decide +kernel
theorem dX1_drop_3 : decode cX1_drop 3 = .ok (.aload_n 1, 1) := by decide +kernel
theorem dX1_drop_4 : decode cX1_drop 4 = .ok (.getfield 113, 3) := by decide +kernel
theorem dX1_drop_7 : decode cX1_drop 7 = .ok (.if_icmp .ge 32, 3) := by decide +kernel
theorem dX1_drop_10 : decode cX1_drop 10 = .ok (.aload_n 1, 1) := by decide +kernel
theorem dX1_drop_11 : decode cX1_drop 11 = .ok (.getfield 116, 3) := by decide +kernel
theorem dX1_drop_14 : decode cX1_drop 14 = .ok (.iload_n 2, 1) := by decide +kernel
theorem dX1_drop_15 : decode cX1_drop 15 = .ok (.laload, 1) := by decide +kernel
theorem dX1_drop_16 : decode cX1_drop 16 = .ok (.lconst 0, 1) := by decide +kernel
theorem dX1_drop_17 : decode cX1_drop 17 = .ok (.lcmp, 1) := by decide +kernel
theorem dX1_drop_18 : decode cX1_drop 18 = .ok (.ifCond .ge 15, 3) := by decide +kernel
theorem dX1_drop_21 : decode cX1_drop 21 = .ok (.aload_n 0, 1) := by decide +kernel
theorem dX1_drop_22 : decode cX1_drop 22 = .ok (.getfield 25, 3) := by decide +kernel
theorem dX1_drop_25 : decode cX1_drop 25 = .ok (.aload_n 1, 1) := by decide +kernel
theorem dX1_drop_26 : decode cX1_drop 26 = .ok (.getfield 119, 3) := by decide +kernel
theorem dX1_drop_29 : decode cX1_drop 29 = .ok (.iload_n 2, 1) := by decide +kernel
theorem dX1_drop_30 : decode cX1_drop 30 = .ok (.iaload, 1) := by decide +kernel
theorem dX1_drop_31 : decode cX1_drop 31 = .ok (.iconst 1, 1) := by decide +kernel
theorem dX1_drop_32 : decode cX1_drop 32 = .ok (.bastore, 1) := by decide +kernel
theorem dX1_drop_33 : decode cX1_drop 33 = .ok (.iinc 2 1, 3) := by decide +kernel
theorem dX1_drop_36 : decode cX1_drop 36 = .ok (.goto (-34), 3) := by decide +kernel
theorem dX1_drop_39 : decode cX1_drop 39 = .ok (.aload_n 1, 1) := by decide +kernel
theorem dX1_drop_40 : decode cX1_drop 40 = .ok (.getfield 66, 3) := by decide +kernel
theorem dX1_drop_43 : decode cX1_drop 43 = .ok (.ifCond .eq 18, 3) := by decide +kernel
theorem dX1_drop_46 : decode cX1_drop 46 = .ok (.aload_n 1, 1) := by decide +kernel
theorem dX1_drop_47 : decode cX1_drop 47 = .ok (.iconst 0, 1) := by decide +kernel
theorem dX1_drop_48 : decode cX1_drop 48 = .ok (.putfield 66, 3) := by decide +kernel
theorem dX1_drop_51 : decode cX1_drop 51 = .ok (.aload_n 0, 1) := by decide +kernel
theorem dX1_drop_52 : decode cX1_drop 52 = .ok (.dup, 1) := by decide +kernel
theorem dX1_drop_53 : decode cX1_drop 53 = .ok (.getfield 60, 3) := by decide +kernel
theorem dX1_drop_56 : decode cX1_drop 56 = .ok (.iconst 1, 1) := by decide +kernel
theorem dX1_drop_57 : decode cX1_drop 57 = .ok (.isub, 1) := by decide +kernel
theorem dX1_drop_58 : decode cX1_drop 58 = .ok (.putfield 60, 3) := by decide +kernel
theorem dX1_drop_61 : decode cX1_drop 61 = .ok (.return_, 1) := by decide +kernel
theorem dX1_valuesFit_0 : decode cX1_valuesFit 0 = .ok (.iconst 0, 1) := by decide +kernel
theorem dX1_valuesFit_1 : decode cX1_valuesFit 1 = .ok (.istore_n 1, 1) := by decide +kernel
theorem dX1_valuesFit_2 : decode cX1_valuesFit 2 = .ok (.iload_n 1, 1) := by decide +kernel
theorem dX1_valuesFit_3 : decode cX1_valuesFit 3 = .ok (.sipush 300, 3) := by decide +kernel
theorem dX1_valuesFit_6 : decode cX1_valuesFit 6 = .ok (.if_icmp .ge 24, 3) := by decide +kernel
theorem dX1_valuesFit_9 : decode cX1_valuesFit 9 = .ok (.aload_n 0, 1) := by decide +kernel
theorem dX1_valuesFit_10 : decode cX1_valuesFit 10 = .ok (.getfield 22, 3) := by decide +kernel
theorem dX1_valuesFit_13 : decode cX1_valuesFit 13 = .ok (.iload_n 1, 1) := by decide +kernel
theorem dX1_valuesFit_14 : decode cX1_valuesFit 14 = .ok (.laload, 1) := by decide +kernel
theorem dX1_valuesFit_15 : decode cX1_valuesFit 15 = .ok (.ldc2_w 88, 3) := by decide +kernel
theorem dX1_valuesFit_18 : decode cX1_valuesFit 18 = .ok (.lcmp, 1) := by decide +kernel
theorem dX1_valuesFit_19 : decode cX1_valuesFit 19 = .ok (.ifCond .le 5, 3) := by decide +kernel
theorem dX1_valuesFit_22 : decode cX1_valuesFit 22 = .ok (.iconst 0, 1) := by decide +kernel
theorem dX1_valuesFit_23 : decode cX1_valuesFit 23 = .ok (.ireturn, 1) := by decide +kernel
theorem dX1_valuesFit_24 : decode cX1_valuesFit 24 = .ok (.iinc 1 1, 3) := by decide +kernel
theorem dX1_valuesFit_27 : decode cX1_valuesFit 27 = .ok (.goto (-25), 3) := by decide +kernel
theorem dX1_valuesFit_30 : decode cX1_valuesFit 30 = .ok (.iconst 1, 1) := by decide +kernel
theorem dX1_valuesFit_31 : decode cX1_valuesFit 31 = .ok (.ireturn, 1) := by decide +kernel
theorem dX1_endItemsOfSet_0 : decode cX1_endItemsOfSet 0 = .ok (.iconst 0, 1) := by decide +kernel
theorem dX1_endItemsOfSet_1 : decode cX1_endItemsOfSet 1 = .ok (.istore_n 1, 1) := by decide +kernel
theorem dX1_endItemsOfSet_2 : decode cX1_endItemsOfSet 2 = .ok (.iload_n 1, 1) := by decide +kernel
theorem dX1_endItemsOfSet_3 : decode cX1_endItemsOfSet 3 = .ok (.aload_n 0, 1) := by decide +kernel
theorem dX1_endItemsOfSet_4 : decode cX1_endItemsOfSet 4 = .ok (.getfield 37, 3) := by decide +kernel
theorem dX1_endItemsOfSet_7 : decode cX1_endItemsOfSet 7 = .ok (.if_icmp .ge 32, 3) := by decide +kernel
theorem dX1_endItemsOfSet_10 : decode cX1_endItemsOfSet 10 = .ok (.aload_n 0, 1) := by decide +kernel
theorem dX1_endItemsOfSet_11 : decode cX1_endItemsOfSet 11 = .ok (.getfield 18, 3) := by decide +kernel
theorem dX1_endItemsOfSet_14 : decode cX1_endItemsOfSet 14 = .ok (.iload_n 1, 1) := by decide +kernel
theorem dX1_endItemsOfSet_15 : decode cX1_endItemsOfSet 15 = .ok (.aaload, 1) := by decide +kernel
theorem dX1_endItemsOfSet_16 : decode cX1_endItemsOfSet 16 = .ok (.astore_n 2, 1) := by decide +kernel
theorem dX1_endItemsOfSet_17 : decode cX1_endItemsOfSet 17 = .ok (.aload_n 2, 1) := by decide +kernel
theorem dX1_endItemsOfSet_18 : decode cX1_endItemsOfSet 18 = .ok (.ifnull 15, 3) := by decide +kernel
theorem dX1_endItemsOfSet_21 : decode cX1_endItemsOfSet 21 = .ok (.aload_n 2, 1) := by decide +kernel
theorem dX1_endItemsOfSet_22 : decode cX1_endItemsOfSet 22 = .ok (.getfield 66, 3) := by decide +kernel
theorem dX1_endItemsOfSet_25 : decode cX1_endItemsOfSet 25 = .ok (.ifCond .eq 8, 3) := by decide +kernel
theorem dX1_endItemsOfSet_28 : decode cX1_endItemsOfSet 28 = .ok (.aload_n 2, 1) := by decide +kernel
theorem dX1_endItemsOfSet_29 : decode cX1_endItemsOfSet 29 = .ok (.iconst 0, 1) := by decide +kernel
theorem dX1_endItemsOfSet_30 : decode cX1_endItemsOfSet 30 = .ok (.putfield 53, 3) := by decide +kernel
theorem dX1_endItemsOfSet_33 : decode cX1_endItemsOfSet 33 = .ok (.iinc 1 1, 3) := by decide +kernel
theorem dX1_endItemsOfSet_36 : decode cX1_endItemsOfSet 36 = .ok (.goto (-34), 3) := by decide +kernel
theorem dX1_endItemsOfSet_39 : decode cX1_endItemsOfSet 39 = .ok (.aload_n 0, 1) := by decide +kernel
theorem dX1_endItemsOfSet_40 : decode cX1_endItemsOfSet 40 = .ok (.dup, 1) := by decide +kernel
theorem dX1_endItemsOfSet_41 : decode cX1_endItemsOfSet 41 = .ok (.getfield 42, 3) := by decide +kernel
theorem dX1_endItemsOfSet_44 : decode cX1_endItemsOfSet 44 = .ok (.aload_n 0, 1) := by decide +kernel
theorem dX1_endItemsOfSet_45 : decode cX1_endItemsOfSet 45 = .ok (.getfield 60, 3) := by decide +kernel
theorem dX1_endItemsOfSet_48 : decode cX1_endItemsOfSet 48 = .ok (.isub, 1) := by decide +kernel
theorem dX1_endItemsOfSet_49 : decode cX1_endItemsOfSet 49 = .ok (.putfield 42, 3) := by decide +kernel
theorem dX1_endItemsOfSet_52 : decode cX1_endItemsOfSet 52 = .ok (.return_, 1) := by decide +kernel
