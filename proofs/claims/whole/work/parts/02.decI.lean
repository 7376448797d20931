/-! decode rows, printed by wip/whole/tools/names.py -/
theorem dX0_init_0 : decode cX0_init 0 = .ok (.aload_n 0, 1) := by decide +kernel
theorem dX0_init_1 : decode cX0_init 1 = .ok (.invokespecial 3, 3) := by decide +kernel
theorem dX0_init_4 : decode cX0_init 4 = .ok (.aload_n 0, 1) := by decide +kernel
theorem dX0_init_5 : decode cX0_init 5 = .ok (.bipush 16, 2) := by decide +kernel
theorem dX0_init_7 : decode cX0_init 7 = .ok (.newarray .int, 2) := by decide +kernel
theorem dX0_init_9 : decode cX0_init 9 = .ok (.putfield 9, 3) := by decide +kernel
theorem dX0_init_12 : decode cX0_init 12 = .ok (.aload_n 0, 1) := by decide +kernel
theorem dX0_init_13 : decode cX0_init 13 = .ok (.bipush 16, 2) := by decide +kernel
theorem dX0_init_15 : decode cX0_init 15 = .ok (.newarray .long, 2) := by decide +kernel
theorem dX0_init_17 : decode cX0_init 17 = .ok (.putfield 15, 3) := by decide +kernel
theorem dX0_init_20 : decode cX0_init 20 = .ok (.aload_n 0, 1) := by decide +kernel
theorem dX0_init_21 : decode cX0_init 21 = .ok (.iconst 1, 1) := by decide +kernel
theorem dX0_init_22 : decode cX0_init 22 = .ok (.putfield 19, 3) := by decide +kernel
theorem dX0_init_25 : decode cX0_init 25 = .ok (.return_, 1) := by decide +kernel
theorem dX0_slotOf_0 : decode cX0_slotOf 0 = .ok (.iconst 0, 1) := by decide +kernel
theorem dX0_slotOf_1 : decode cX0_slotOf 1 = .ok (.istore_n 2, 1) := by decide +kernel
theorem dX0_slotOf_2 : decode cX0_slotOf 2 = .ok (.iload_n 2, 1) := by decide +kernel
theorem dX0_slotOf_3 : decode cX0_slotOf 3 = .ok (.aload_n 0, 1) := by decide +kernel
theorem dX0_slotOf_4 : decode cX0_slotOf 4 = .ok (.getfield 23, 3) := by decide +kernel
theorem dX0_slotOf_7 : decode cX0_slotOf 7 = .ok (.if_icmp .ge 21, 3) := by decide +kernel
theorem dX0_slotOf_10 : decode cX0_slotOf 10 = .ok (.aload_n 0, 1) := by decide +kernel
theorem dX0_slotOf_11 : decode cX0_slotOf 11 = .ok (.getfield 9, 3) := by decide +kernel
theorem dX0_slotOf_14 : decode cX0_slotOf 14 = .ok (.iload_n 2, 1) := by decide +kernel
theorem dX0_slotOf_15 : decode cX0_slotOf 15 = .ok (.iaload, 1) := by decide +kernel
theorem dX0_slotOf_16 : decode cX0_slotOf 16 = .ok (.iload_n 1, 1) := by decide +kernel
theorem dX0_slotOf_17 : decode cX0_slotOf 17 = .ok (.if_icmp .ne 5, 3) := by decide +kernel
theorem dX0_slotOf_20 : decode cX0_slotOf 20 = .ok (.iload_n 2, 1) := by decide +kernel
theorem dX0_slotOf_21 : decode cX0_slotOf 21 = .ok (.ireturn, 1) := by decide +kernel
theorem dX0_slotOf_22 : decode cX0_slotOf 22 = .ok (.iinc 2 1, 3) := by decide +kernel
theorem dX0_slotOf_25 : decode cX0_slotOf 25 = .ok (.goto (-23), 3) := by decide +kernel
theorem dX0_slotOf_28 : decode cX0_slotOf 28 = .ok (.iconst (-1), 1) := by decide +kernel
theorem dX0_slotOf_29 : decode cX0_slotOf 29 = .ok (.ireturn, 1) := by decide +kernel
theorem dX0_amountFor_0 : decode cX0_amountFor 0 = .ok (.aload_n 0, 1) := by decide +kernel
theorem dX0_amountFor_1 : decode cX0_amountFor 1 = .ok (.iload_n 1, 1) := by decide +kernel
theorem dX0_amountFor_2 : decode cX0_amountFor 2 = .ok (.invokevirtual 27, 3) := by decide +kernel
theorem dX0_amountFor_5 : decode cX0_amountFor 5 = .ok (.istore_n 2, 1) := by decide +kernel
theorem dX0_amountFor_6 : decode cX0_amountFor 6 = .ok (.iload_n 2, 1) := by decide +kernel
theorem dX0_amountFor_7 : decode cX0_amountFor 7 = .ok (.ifCond .ge 7, 3) := by decide +kernel
theorem dX0_amountFor_10 : decode cX0_amountFor 10 = .ok (.lconst 0, 1) := by decide +kernel
theorem dX0_amountFor_11 : decode cX0_amountFor 11 = .ok (.goto 9, 3) := by decide +kernel
theorem dX0_amountFor_14 : decode cX0_amountFor 14 = .ok (.aload_n 0, 1) := by decide +kernel
theorem dX0_amountFor_15 : decode cX0_amountFor 15 = .ok (.getfield 15, 3) := by decide +kernel
theorem dX0_amountFor_18 : decode cX0_amountFor 18 = .ok (.iload_n 2, 1) := by decide +kernel
theorem dX0_amountFor_19 : decode cX0_amountFor 19 = .ok (.laload, 1) := by decide +kernel
theorem dX0_amountFor_20 : decode cX0_amountFor 20 = .ok (.lreturn, 1) := by decide +kernel
theorem dX0_change_0 : decode cX0_change 0 = .ok (.lload_n 2, 1) := by decide +kernel
theorem dX0_change_1 : decode cX0_change 1 = .ok (.ldc2_w 31, 3) := by decide +kernel
theorem dX0_change_4 : decode cX0_change 4 = .ok (.lcmp, 1) := by decide +kernel
theorem dX0_change_5 : decode cX0_change 5 = .ok (.ifCond .lt 11, 3) := by decide +kernel
theorem dX0_change_8 : decode cX0_change 8 = .ok (.lload_n 2, 1) := by decide +kernel
theorem dX0_change_9 : decode cX0_change 9 = .ok (.ldc2_w 33, 3) := by decide +kernel
theorem dX0_change_12 : decode cX0_change 12 = .ok (.lcmp, 1) := by decide +kernel
theorem dX0_change_13 : decode cX0_change 13 = .ok (.ifCond .le 5, 3) := by decide +kernel
theorem dX0_change_16 : decode cX0_change 16 = .ok (.iconst 0, 1) := by decide +kernel
theorem dX0_change_17 : decode cX0_change 17 = .ok (.ireturn, 1) := by decide +kernel
theorem dX0_change_18 : decode cX0_change 18 = .ok (.aload_n 0, 1) := by decide +kernel
theorem dX0_change_19 : decode cX0_change 19 = .ok (.iload_n 1, 1) := by decide +kernel
theorem dX0_change_20 : decode cX0_change 20 = .ok (.invokevirtual 35, 3) := by decide +kernel
theorem dX0_change_23 : decode cX0_change 23 = .ok (.lload_n 2, 1) := by decide +kernel
theorem dX0_change_24 : decode cX0_change 24 = .ok (.ladd, 1) := by decide +kernel
theorem dX0_change_25 : decode cX0_change 25 = .ok (.lstore 4, 2) := by decide +kernel
theorem dX0_change_27 : decode cX0_change 27 = .ok (.lload 4, 2) := by decide +kernel
theorem dX0_change_29 : decode cX0_change 29 = .ok (.ldc2_w 39, 3) := by decide +kernel
theorem dX0_change_32 : decode cX0_change 32 = .ok (.lcmp, 1) := by decide +kernel
theorem dX0_change_33 : decode cX0_change 33 = .ok (.ifCond .lt 12, 3) := by decide +kernel
theorem dX0_change_36 : decode cX0_change 36 = .ok (.lload 4, 2) := by decide +kernel
theorem dX0_change_38 : decode cX0_change 38 = .ok (.ldc2_w 41, 3) := by decide +kernel
theorem dX0_change_41 : decode cX0_change 41 = .ok (.lcmp, 1) := by decide +kernel
theorem dX0_change_42 : decode cX0_change 42 = .ok (.ifCond .le 5, 3) := by decide +kernel
theorem dX0_change_45 : decode cX0_change 45 = .ok (.iconst 0, 1) := by decide +kernel
theorem dX0_change_46 : decode cX0_change 46 = .ok (.ireturn, 1) := by decide +kernel
theorem dX0_change_47 : decode cX0_change 47 = .ok (.aload_n 0, 1) := by decide +kernel
theorem dX0_change_48 : decode cX0_change 48 = .ok (.iload_n 1, 1) := by decide +kernel
theorem dX0_change_49 : decode cX0_change 49 = .ok (.invokevirtual 27, 3) := by decide +kernel
theorem dX0_change_52 : decode cX0_change 52 = .ok (.istore 6, 2) := by decide +kernel
theorem dX0_change_54 : decode cX0_change 54 = .ok (.iload 6, 2) := by decide +kernel
theorem dX0_change_56 : decode cX0_change 56 = .ok (.ifCond .ge 26, 3) := by decide +kernel
theorem dX0_change_59 : decode cX0_change 59 = .ok (.lload 4, 2) := by decide +kernel
theorem dX0_change_61 : decode cX0_change 61 = .ok (.lconst 0, 1) := by decide +kernel
theorem dX0_change_62 : decode cX0_change 62 = .ok (.lcmp, 1) := by decide +kernel
theorem dX0_change_63 : decode cX0_change 63 = .ok (.ifCond .eq 13, 3) := by decide +kernel
theorem dX0_change_66 : decode cX0_change 66 = .ok (.aload_n 0, 1) := by decide +kernel
theorem dX0_change_67 : decode cX0_change 67 = .ok (.iload_n 1, 1) := by decide +kernel
theorem dX0_change_68 : decode cX0_change 68 = .ok (.lload 4, 2) := by decide +kernel
theorem dX0_change_70 : decode cX0_change 70 = .ok (.invokevirtual 43, 3) := by decide +kernel
theorem dX0_change_73 : decode cX0_change 73 = .ok (.ifCond .eq 7, 3) := by decide +kernel
theorem dX0_change_76 : decode cX0_change 76 = .ok (.iconst 1, 1) := by decide +kernel
theorem dX0_change_77 : decode cX0_change 77 = .ok (.goto 4, 3) := by decide +kernel
theorem dX0_change_80 : decode cX0_change 80 = .ok (.iconst 0, 1) := by decide +kernel
theorem dX0_change_81 : decode cX0_change 81 = .ok (.ireturn, 1) := by decide +kernel
theorem dX0_change_82 : decode cX0_change 82 = .ok (.aload_n 0, 1) := by decide +kernel
theorem dX0_change_83 : decode cX0_change 83 = .ok (.getfield 15, 3) := by decide +kernel
theorem dX0_change_86 : decode cX0_change 86 = .ok (.iload 6, 2) := by decide +kernel
theorem dX0_change_88 : decode cX0_change 88 = .ok (.lload 4, 2) := by decide +kernel
theorem dX0_change_90 : decode cX0_change 90 = .ok (.lastore, 1) := by decide +kernel
theorem dX0_change_91 : decode cX0_change 91 = .ok (.lload 4, 2) := by decide +kernel
theorem dX0_change_93 : decode cX0_change 93 = .ok (.lconst 0, 1) := by decide +kernel
theorem dX0_change_94 : decode cX0_change 94 = .ok (.lcmp, 1) := by decide +kernel
theorem dX0_change_95 : decode cX0_change 95 = .ok (.ifCond .ne 9, 3) := by decide +kernel
theorem dX0_change_98 : decode cX0_change 98 = .ok (.aload_n 0, 1) := by decide +kernel
theorem dX0_change_99 : decode cX0_change 99 = .ok (.iload 6, 2) := by decide +kernel
theorem dX0_change_101 : decode cX0_change 101 = .ok (.invokevirtual 47, 3) := by decide +kernel
theorem dX0_change_104 : decode cX0_change 104 = .ok (.iconst 1, 1) := by decide +kernel
theorem dX0_change_105 : decode cX0_change 105 = .ok (.ireturn, 1) := by decide +kernel
theorem dX0_addSlot_0 : decode cX0_addSlot 0 = .ok (.aload_n 0, 1) := by decide +kernel
theorem dX0_addSlot_1 : decode cX0_addSlot 1 = .ok (.getfield 23, 3) := by decide +kernel
theorem dX0_addSlot_4 : decode cX0_addSlot 4 = .ok (.bipush 16, 2) := by decide +kernel
theorem dX0_addSlot_6 : decode cX0_addSlot 6 = .ok (.if_icmp .lt 5, 3) := by decide +kernel
theorem dX0_addSlot_9 : decode cX0_addSlot 9 = .ok (.iconst 0, 1) := by decide +kernel
theorem dX0_addSlot_10 : decode cX0_addSlot 10 = .ok (.ireturn, 1) := by decide +kernel
theorem dX0_addSlot_11 : decode cX0_addSlot 11 = .ok (.aload_n 0, 1) := by decide +kernel
theorem dX0_addSlot_12 : decode cX0_addSlot 12 = .ok (.getfield 9, 3) := by decide +kernel
theorem dX0_addSlot_15 : decode cX0_addSlot 15 = .ok (.aload_n 0, 1) := by decide +kernel
theorem dX0_addSlot_16 : decode cX0_addSlot 16 = .ok (.getfield 23, 3) := by decide +kernel
theorem dX0_addSlot_19 : decode cX0_addSlot 19 = .ok (.iload_n 1, 1) := by decide +kernel
theorem dX0_addSlot_20 : decode cX0_addSlot 20 = .ok (.iastore, 1) := by decide +kernel
theorem dX0_addSlot_21 : decode cX0_addSlot 21 = .ok (.aload_n 0, 1) := by decide +kernel
theorem dX0_addSlot_22 : decode cX0_addSlot 22 = .ok (.getfield 15, 3) := by decide +kernel
theorem dX0_addSlot_25 : decode cX0_addSlot 25 = .ok (.aload_n 0, 1) := by decide +kernel
theorem dX0_addSlot_26 : decode cX0_addSlot 26 = .ok (.getfield 23, 3) := by decide +kernel
theorem dX0_addSlot_29 : decode cX0_addSlot 29 = .ok (.lload_n 2, 1) := by decide +kernel
theorem dX0_addSlot_30 : decode cX0_addSlot 30 = .ok (.lastore, 1) := by decide +kernel
theorem dX0_addSlot_31 : decode cX0_addSlot 31 = .ok (.aload_n 0, 1) := by decide +kernel
theorem dX0_addSlot_32 : decode cX0_addSlot 32 = .ok (.dup, 1) := by decide +kernel
theorem dX0_addSlot_33 : decode cX0_addSlot 33 = .ok (.getfield 23, 3) := by decide +kernel
theorem dX0_addSlot_36 : decode cX0_addSlot 36 = .ok (.iconst 1, 1) := by decide +kernel
theorem dX0_addSlot_37 : decode cX0_addSlot 37 = .ok (.iadd, 1) := by decide +kernel
theorem dX0_addSlot_38 : decode cX0_addSlot 38 = .ok (.putfield 23, 3) := by decide +kernel
theorem dX0_addSlot_41 : decode cX0_addSlot 41 = .ok (.iconst 1, 1) := by decide +kernel
theorem dX0_addSlot_42 : decode cX0_addSlot 42 = .ok (.ireturn, 1) := by decide +kernel
theorem dX0_freeSlot_0 : decode cX0_freeSlot 0 = .ok (.aload_n 0, 1) := by decide +kernel
theorem dX0_freeSlot_1 : decode cX0_freeSlot 1 = .ok (.dup, 1) := by decide +kernel
theorem dX0_freeSlot_2 : decode cX0_freeSlot 2 = .ok (.getfield 23, 3) := by decide +kernel
theorem dX0_freeSlot_5 : decode cX0_freeSlot 5 = .ok (.iconst 1, 1) := by decide +kernel
theorem dX0_freeSlot_6 : decode cX0_freeSlot 6 = .ok (.isub, 1) := by decide +kernel
theorem dX0_freeSlot_7 : decode cX0_freeSlot 7 = .ok (.putfield 23, 3) := by decide +kernel
theorem dX0_freeSlot_10 : decode cX0_freeSlot 10 = .ok (.aload_n 0, 1) := by decide +kernel
theorem dX0_freeSlot_11 : decode cX0_freeSlot 11 = .ok (.getfield 9, 3) := by decide +kernel
theorem dX0_freeSlot_14 : decode cX0_freeSlot 14 = .ok (.iload_n 1, 1) := by decide +kernel
theorem dX0_freeSlot_15 : decode cX0_freeSlot 15 = .ok (.aload_n 0, 1) := by decide +kernel
theorem dX0_freeSlot_16 : decode cX0_freeSlot 16 = .ok (.getfield 9, 3) := by decide +kernel
theorem dX0_freeSlot_19 : decode cX0_freeSlot 19 = .ok (.aload_n 0, 1) := by decide +kernel
theorem dX0_freeSlot_20 : decode cX0_freeSlot 20 = .ok (.getfield 23, 3) := by decide +kernel
theorem dX0_freeSlot_23 : decode cX0_freeSlot 23 = .ok (.iaload, 1) := by decide +kernel
theorem dX0_freeSlot_24 : decode cX0_freeSlot 24 = .ok (.iastore, 1) := by decide +kernel
theorem dX0_freeSlot_25 : decode cX0_freeSlot 25 = .ok (.aload_n 0, 1) := by decide +kernel
theorem dX0_freeSlot_26 : decode cX0_freeSlot 26 = .ok (.getfield 15, 3) := by decide +kernel
theorem dX0_freeSlot_29 : decode cX0_freeSlot 29 = .ok (.iload_n 1, 1) := by decide +kernel
theorem dX0_freeSlot_30 : decode cX0_freeSlot 30 = .ok (.aload_n 0, 1) := by decide +kernel
theorem dX0_freeSlot_31 : decode cX0_freeSlot 31 = .ok (.getfield 15, 3) := by decide +kernel
theorem dX0_freeSlot_34 : decode cX0_freeSlot 34 = .ok (.aload_n 0, 1) := by decide +kernel
theorem dX0_freeSlot_35 : decode cX0_freeSlot 35 = .ok (.getfield 23, 3) := by decide +kernel
theorem dX0_freeSlot_38 : decode cX0_freeSlot 38 = .ok (.laload, 1) := by decide +kernel
theorem dX0_freeSlot_39 : decode cX0_freeSlot 39 = .ok (.lastore, 1) := by decide +kernel
theorem dX0_freeSlot_40 : decode cX0_freeSlot 40 = .ok (.return_, 1) := by decide +kernel
