/-! what stands at each place of the code, by program -/
theorem d_T_init_0 : decode b_T_init 0 = .ok (.aload_n 0, 1) := by decide +kernel
theorem d_T_init_1 : decode b_T_init 1 = .ok (.invokespecial 1, 3) := by decide +kernel
theorem d_T_init_4 : decode b_T_init 4 = .ok (.aload_n 0, 1) := by decide +kernel
theorem d_T_init_5 : decode b_T_init 5 = .ok (.bipush 8, 2) := by decide +kernel
theorem d_T_init_7 : decode b_T_init 7 = .ok (.newarray .boolean, 2) := by decide +kernel
theorem d_T_init_9 : decode b_T_init 9 = .ok (.putfield 7, 3) := by decide +kernel
theorem d_T_init_12 : decode b_T_init 12 = .ok (.aload_n 0, 1) := by decide +kernel
theorem d_T_init_13 : decode b_T_init 13 = .ok (.bipush 18, 2) := by decide +kernel
theorem d_T_init_15 : decode b_T_init 15 = .ok (.newarray .int, 2) := by decide +kernel
theorem d_T_init_17 : decode b_T_init 17 = .ok (.putfield 13, 3) := by decide +kernel
theorem d_T_init_20 : decode b_T_init 20 = .ok (.aload_n 0, 1) := by decide +kernel
theorem d_T_init_21 : decode b_T_init 21 = .ok (.bipush 72, 2) := by decide +kernel
theorem d_T_init_23 : decode b_T_init 23 = .ok (.newarray .int, 2) := by decide +kernel
theorem d_T_init_25 : decode b_T_init 25 = .ok (.putfield 17, 3) := by decide +kernel
theorem d_T_init_28 : decode b_T_init 28 = .ok (.aload_n 0, 1) := by decide +kernel
theorem d_T_init_29 : decode b_T_init 29 = .ok (.bipush 6, 2) := by decide +kernel
theorem d_T_init_31 : decode b_T_init 31 = .ok (.newarray .boolean, 2) := by decide +kernel
theorem d_T_init_33 : decode b_T_init 33 = .ok (.putfield 20, 3) := by decide +kernel
theorem d_T_init_36 : decode b_T_init 36 = .ok (.aload_n 0, 1) := by decide +kernel
theorem d_T_init_37 : decode b_T_init 37 = .ok (.bipush 36, 2) := by decide +kernel
theorem d_T_init_39 : decode b_T_init 39 = .ok (.newarray .int, 2) := by decide +kernel
theorem d_T_init_41 : decode b_T_init 41 = .ok (.putfield 23, 3) := by decide +kernel
theorem d_T_init_44 : decode b_T_init 44 = .ok (.aload_n 0, 1) := by decide +kernel
theorem d_T_init_45 : decode b_T_init 45 = .ok (.iload_n 1, 1) := by decide +kernel
theorem d_T_init_46 : decode b_T_init 46 = .ok (.iconst 2, 1) := by decide +kernel
theorem d_T_init_47 : decode b_T_init 47 = .ok (.if_icmp .ge 7, 3) := by decide +kernel
theorem d_T_init_50 : decode b_T_init 50 = .ok (.iconst 2, 1) := by decide +kernel
theorem d_T_init_51 : decode b_T_init 51 = .ok (.goto 15, 3) := by decide +kernel
theorem d_T_init_54 : decode b_T_init 54 = .ok (.iload_n 1, 1) := by decide +kernel
theorem d_T_init_55 : decode b_T_init 55 = .ok (.bipush 8, 2) := by decide +kernel
theorem d_T_init_57 : decode b_T_init 57 = .ok (.if_icmp .le 8, 3) := by decide +kernel
theorem d_T_init_60 : decode b_T_init 60 = .ok (.bipush 8, 2) := by decide +kernel
theorem d_T_init_62 : decode b_T_init 62 = .ok (.goto 4, 3) := by decide +kernel
theorem d_T_init_65 : decode b_T_init 65 = .ok (.iload_n 1, 1) := by decide +kernel
theorem d_T_init_66 : decode b_T_init 66 = .ok (.putfield 26, 3) := by decide +kernel
theorem d_T_init_69 : decode b_T_init 69 = .ok (.aload_n 0, 1) := by decide +kernel
theorem d_T_init_70 : decode b_T_init 70 = .ok (.iload_n 2, 1) := by decide +kernel
theorem d_T_init_71 : decode b_T_init 71 = .ok (.ifCond .ge 7, 3) := by decide +kernel
theorem d_T_init_74 : decode b_T_init 74 = .ok (.iconst 0, 1) := by decide +kernel
theorem d_T_init_75 : decode b_T_init 75 = .ok (.goto 15, 3) := by decide +kernel
theorem d_T_init_78 : decode b_T_init 78 = .ok (.iload_n 2, 1) := by decide +kernel
theorem d_T_init_79 : decode b_T_init 79 = .ok (.bipush 10, 2) := by decide +kernel
theorem d_T_init_81 : decode b_T_init 81 = .ok (.if_icmp .le 8, 3) := by decide +kernel
theorem d_T_init_84 : decode b_T_init 84 = .ok (.bipush 10, 2) := by decide +kernel
theorem d_T_init_86 : decode b_T_init 86 = .ok (.goto 4, 3) := by decide +kernel
theorem d_T_init_89 : decode b_T_init 89 = .ok (.iload_n 2, 1) := by decide +kernel
theorem d_T_init_90 : decode b_T_init 90 = .ok (.putfield 30, 3) := by decide +kernel
theorem d_T_init_93 : decode b_T_init 93 = .ok (.iconst 0, 1) := by decide +kernel
theorem d_T_init_94 : decode b_T_init 94 = .ok (.istore_n 3, 1) := by decide +kernel
theorem d_T_init_95 : decode b_T_init 95 = .ok (.iload_n 3, 1) := by decide +kernel
theorem d_T_init_96 : decode b_T_init 96 = .ok (.bipush 18, 2) := by decide +kernel
theorem d_T_init_98 : decode b_T_init 98 = .ok (.if_icmp .ge 16, 3) := by decide +kernel
theorem d_T_init_101 : decode b_T_init 101 = .ok (.aload_n 0, 1) := by decide +kernel
theorem d_T_init_102 : decode b_T_init 102 = .ok (.getfield 13, 3) := by decide +kernel
theorem d_T_init_105 : decode b_T_init 105 = .ok (.iload_n 3, 1) := by decide +kernel
theorem d_T_init_106 : decode b_T_init 106 = .ok (.iconst (-1), 1) := by decide +kernel
theorem d_T_init_107 : decode b_T_init 107 = .ok (.iastore, 1) := by decide +kernel
theorem d_T_init_108 : decode b_T_init 108 = .ok (.iinc 3 1, 3) := by decide +kernel
theorem d_T_init_111 : decode b_T_init 111 = .ok (.goto (-16), 3) := by decide +kernel
theorem d_T_init_114 : decode b_T_init 114 = .ok (.iconst 0, 1) := by decide +kernel
theorem d_T_init_115 : decode b_T_init 115 = .ok (.istore_n 3, 1) := by decide +kernel
theorem d_T_init_116 : decode b_T_init 116 = .ok (.iload_n 3, 1) := by decide +kernel
theorem d_T_init_117 : decode b_T_init 117 = .ok (.bipush 36, 2) := by decide +kernel
theorem d_T_init_119 : decode b_T_init 119 = .ok (.if_icmp .ge 16, 3) := by decide +kernel
theorem d_T_init_122 : decode b_T_init 122 = .ok (.aload_n 0, 1) := by decide +kernel
theorem d_T_init_123 : decode b_T_init 123 = .ok (.getfield 23, 3) := by decide +kernel
theorem d_T_init_126 : decode b_T_init 126 = .ok (.iload_n 3, 1) := by decide +kernel
theorem d_T_init_127 : decode b_T_init 127 = .ok (.iconst (-1), 1) := by decide +kernel
theorem d_T_init_128 : decode b_T_init 128 = .ok (.iastore, 1) := by decide +kernel
theorem d_T_init_129 : decode b_T_init 129 = .ok (.iinc 3 1, 3) := by decide +kernel
theorem d_T_init_132 : decode b_T_init 132 = .ok (.goto (-16), 3) := by decide +kernel
theorem d_T_init_135 : decode b_T_init 135 = .ok (.return_, 1) := by decide +kernel
theorem d_T_thrown_0 : decode b_T_thrown 0 = .ok (.aload_n 0, 1) := by decide +kernel
theorem d_T_thrown_1 : decode b_T_thrown 1 = .ok (.getfield 33, 3) := by decide +kernel
theorem d_T_thrown_4 : decode b_T_thrown 4 = .ok (.ireturn, 1) := by decide +kernel
theorem d_T_sheetAt_0 : decode b_T_sheetAt 0 = .ok (.iconst 0, 1) := by decide +kernel
theorem d_T_sheetAt_1 : decode b_T_sheetAt 1 = .ok (.istore_n 2, 1) := by decide +kernel
theorem d_T_sheetAt_2 : decode b_T_sheetAt 2 = .ok (.iload_n 2, 1) := by decide +kernel
theorem d_T_sheetAt_3 : decode b_T_sheetAt 3 = .ok (.bipush 18, 2) := by decide +kernel
theorem d_T_sheetAt_5 : decode b_T_sheetAt 5 = .ok (.if_icmp .ge 21, 3) := by decide +kernel
theorem d_T_sheetAt_8 : decode b_T_sheetAt 8 = .ok (.aload_n 0, 1) := by decide +kernel
theorem d_T_sheetAt_9 : decode b_T_sheetAt 9 = .ok (.getfield 13, 3) := by decide +kernel
theorem d_T_sheetAt_12 : decode b_T_sheetAt 12 = .ok (.iload_n 2, 1) := by decide +kernel
theorem d_T_sheetAt_13 : decode b_T_sheetAt 13 = .ok (.iaload, 1) := by decide +kernel
theorem d_T_sheetAt_14 : decode b_T_sheetAt 14 = .ok (.iload_n 1, 1) := by decide +kernel
theorem d_T_sheetAt_15 : decode b_T_sheetAt 15 = .ok (.if_icmp .ne 5, 3) := by decide +kernel
theorem d_T_sheetAt_18 : decode b_T_sheetAt 18 = .ok (.iload_n 2, 1) := by decide +kernel
theorem d_T_sheetAt_19 : decode b_T_sheetAt 19 = .ok (.ireturn, 1) := by decide +kernel
theorem d_T_sheetAt_20 : decode b_T_sheetAt 20 = .ok (.iinc 2 1, 3) := by decide +kernel
theorem d_T_sheetAt_23 : decode b_T_sheetAt 23 = .ok (.goto (-21), 3) := by decide +kernel
theorem d_T_sheetAt_26 : decode b_T_sheetAt 26 = .ok (.iconst (-1), 1) := by decide +kernel
theorem d_T_sheetAt_27 : decode b_T_sheetAt 27 = .ok (.ireturn, 1) := by decide +kernel
theorem d_T_lowestFrame_0 : decode b_T_lowestFrame 0 = .ok (.iconst 0, 1) := by decide +kernel
theorem d_T_lowestFrame_1 : decode b_T_lowestFrame 1 = .ok (.istore_n 1, 1) := by decide +kernel
theorem d_T_lowestFrame_2 : decode b_T_lowestFrame 2 = .ok (.iload_n 1, 1) := by decide +kernel
theorem d_T_lowestFrame_3 : decode b_T_lowestFrame 3 = .ok (.aload_n 0, 1) := by decide +kernel
theorem d_T_lowestFrame_4 : decode b_T_lowestFrame 4 = .ok (.getfield 26, 3) := by decide +kernel
theorem d_T_lowestFrame_7 : decode b_T_lowestFrame 7 = .ok (.if_icmp .ge 19, 3) := by decide +kernel
theorem d_T_lowestFrame_10 : decode b_T_lowestFrame 10 = .ok (.aload_n 0, 1) := by decide +kernel
theorem d_T_lowestFrame_11 : decode b_T_lowestFrame 11 = .ok (.iload_n 1, 1) := by decide +kernel
theorem d_T_lowestFrame_12 : decode b_T_lowestFrame 12 = .ok (.invokevirtual 36, 3) := by decide +kernel
theorem d_T_lowestFrame_15 : decode b_T_lowestFrame 15 = .ok (.ifCond .ge 5, 3) := by decide +kernel
theorem d_T_lowestFrame_18 : decode b_T_lowestFrame 18 = .ok (.iload_n 1, 1) := by decide +kernel
theorem d_T_lowestFrame_19 : decode b_T_lowestFrame 19 = .ok (.ireturn, 1) := by decide +kernel
theorem d_T_lowestFrame_20 : decode b_T_lowestFrame 20 = .ok (.iinc 1 1, 3) := by decide +kernel
theorem d_T_lowestFrame_23 : decode b_T_lowestFrame 23 = .ok (.goto (-21), 3) := by decide +kernel
theorem d_T_lowestFrame_26 : decode b_T_lowestFrame 26 = .ok (.iconst (-1), 1) := by decide +kernel
theorem d_T_lowestFrame_27 : decode b_T_lowestFrame 27 = .ok (.ireturn, 1) := by decide +kernel
theorem d_T_lowestSlot_0 : decode b_T_lowestSlot 0 = .ok (.iconst 0, 1) := by decide +kernel
theorem d_T_lowestSlot_1 : decode b_T_lowestSlot 1 = .ok (.istore_n 1, 1) := by decide +kernel
theorem d_T_lowestSlot_2 : decode b_T_lowestSlot 2 = .ok (.iload_n 1, 1) := by decide +kernel
theorem d_T_lowestSlot_3 : decode b_T_lowestSlot 3 = .ok (.aload_n 0, 1) := by decide +kernel
theorem d_T_lowestSlot_4 : decode b_T_lowestSlot 4 = .ok (.getfield 30, 3) := by decide +kernel
theorem d_T_lowestSlot_7 : decode b_T_lowestSlot 7 = .ok (.if_icmp .ge 25, 3) := by decide +kernel
theorem d_T_lowestSlot_10 : decode b_T_lowestSlot 10 = .ok (.aload_n 0, 1) := by decide +kernel
theorem d_T_lowestSlot_11 : decode b_T_lowestSlot 11 = .ok (.bipush 100, 2) := by decide +kernel
theorem d_T_lowestSlot_13 : decode b_T_lowestSlot 13 = .ok (.iload_n 1, 1) := by decide +kernel
theorem d_T_lowestSlot_14 : decode b_T_lowestSlot 14 = .ok (.iadd, 1) := by decide +kernel
theorem d_T_lowestSlot_15 : decode b_T_lowestSlot 15 = .ok (.invokevirtual 36, 3) := by decide +kernel
theorem d_T_lowestSlot_18 : decode b_T_lowestSlot 18 = .ok (.ifCond .ge 8, 3) := by decide +kernel
theorem d_T_lowestSlot_21 : decode b_T_lowestSlot 21 = .ok (.bipush 100, 2) := by decide +kernel
theorem d_T_lowestSlot_23 : decode b_T_lowestSlot 23 = .ok (.iload_n 1, 1) := by decide +kernel
theorem d_T_lowestSlot_24 : decode b_T_lowestSlot 24 = .ok (.iadd, 1) := by decide +kernel
theorem d_T_lowestSlot_25 : decode b_T_lowestSlot 25 = .ok (.ireturn, 1) := by decide +kernel
theorem d_T_lowestSlot_26 : decode b_T_lowestSlot 26 = .ok (.iinc 1 1, 3) := by decide +kernel
theorem d_T_lowestSlot_29 : decode b_T_lowestSlot 29 = .ok (.goto (-27), 3) := by decide +kernel
theorem d_T_lowestSlot_32 : decode b_T_lowestSlot 32 = .ok (.iconst (-1), 1) := by decide +kernel
theorem d_T_lowestSlot_33 : decode b_T_lowestSlot 33 = .ok (.ireturn, 1) := by decide +kernel
theorem d_T_owners_0 : decode b_T_owners 0 = .ok (.iconst 0, 1) := by decide +kernel
theorem d_T_owners_1 : decode b_T_owners 1 = .ok (.istore_n 2, 1) := by decide +kernel
theorem d_T_owners_2 : decode b_T_owners 2 = .ok (.iconst 0, 1) := by decide +kernel
theorem d_T_owners_3 : decode b_T_owners 3 = .ok (.istore_n 3, 1) := by decide +kernel
theorem d_T_owners_4 : decode b_T_owners 4 = .ok (.iload_n 3, 1) := by decide +kernel
theorem d_T_owners_5 : decode b_T_owners 5 = .ok (.bipush 36, 2) := by decide +kernel
theorem d_T_owners_7 : decode b_T_owners 7 = .ok (.if_icmp .ge 27, 3) := by decide +kernel
theorem d_T_owners_10 : decode b_T_owners 10 = .ok (.aload_n 0, 1) := by decide +kernel
theorem d_T_owners_11 : decode b_T_owners 11 = .ok (.getfield 23, 3) := by decide +kernel
theorem d_T_owners_14 : decode b_T_owners 14 = .ok (.iload_n 3, 1) := by decide +kernel
theorem d_T_owners_15 : decode b_T_owners 15 = .ok (.iaload, 1) := by decide +kernel
theorem d_T_owners_16 : decode b_T_owners 16 = .ok (.iload_n 1, 1) := by decide +kernel
theorem d_T_owners_17 : decode b_T_owners 17 = .ok (.if_icmp .ne 9, 3) := by decide +kernel
theorem d_T_owners_20 : decode b_T_owners 20 = .ok (.iload_n 2, 1) := by decide +kernel
theorem d_T_owners_21 : decode b_T_owners 21 = .ok (.iconst 1, 1) := by decide +kernel
theorem d_T_owners_22 : decode b_T_owners 22 = .ok (.iadd, 1) := by decide +kernel
theorem d_T_owners_23 : decode b_T_owners 23 = .ok (.goto 4, 3) := by decide +kernel
theorem d_T_owners_26 : decode b_T_owners 26 = .ok (.iload_n 2, 1) := by decide +kernel
theorem d_T_owners_27 : decode b_T_owners 27 = .ok (.istore_n 2, 1) := by decide +kernel
theorem d_T_owners_28 : decode b_T_owners 28 = .ok (.iinc 3 1, 3) := by decide +kernel
theorem d_T_owners_31 : decode b_T_owners 31 = .ok (.goto (-27), 3) := by decide +kernel
theorem d_T_owners_34 : decode b_T_owners 34 = .ok (.iload_n 2, 1) := by decide +kernel
theorem d_T_owners_35 : decode b_T_owners 35 = .ok (.ireturn, 1) := by decide +kernel
theorem d_T_turn_0 : decode b_T_turn 0 = .ok (.aload_n 0, 1) := by decide +kernel
theorem d_T_turn_1 : decode b_T_turn 1 = .ok (.aload_n 0, 1) := by decide +kernel
theorem d_T_turn_2 : decode b_T_turn 2 = .ok (.getfield 40, 3) := by decide +kernel
theorem d_T_turn_5 : decode b_T_turn 5 = .ok (.iconst 1, 1) := by decide +kernel
theorem d_T_turn_6 : decode b_T_turn 6 = .ok (.iadd, 1) := by decide +kernel
theorem d_T_turn_7 : decode b_T_turn 7 = .ok (.aload_n 0, 1) := by decide +kernel
theorem d_T_turn_8 : decode b_T_turn 8 = .ok (.getfield 26, 3) := by decide +kernel
theorem d_T_turn_11 : decode b_T_turn 11 = .ok (.if_icmp .ne 7, 3) := by decide +kernel
theorem d_T_turn_14 : decode b_T_turn 14 = .ok (.iconst 0, 1) := by decide +kernel
theorem d_T_turn_15 : decode b_T_turn 15 = .ok (.goto 9, 3) := by decide +kernel
theorem d_T_turn_18 : decode b_T_turn 18 = .ok (.aload_n 0, 1) := by decide +kernel
theorem d_T_turn_19 : decode b_T_turn 19 = .ok (.getfield 40, 3) := by decide +kernel
theorem d_T_turn_22 : decode b_T_turn 22 = .ok (.iconst 1, 1) := by decide +kernel
theorem d_T_turn_23 : decode b_T_turn 23 = .ok (.iadd, 1) := by decide +kernel
theorem d_T_turn_24 : decode b_T_turn 24 = .ok (.putfield 40, 3) := by decide +kernel
theorem d_T_turn_27 : decode b_T_turn 27 = .ok (.return_, 1) := by decide +kernel
theorem d_T_getFrame_0 : decode b_T_getFrame 0 = .ok (.aload_n 0, 1) := by decide +kernel
theorem d_T_getFrame_1 : decode b_T_getFrame 1 = .ok (.invokevirtual 43, 3) := by decide +kernel
theorem d_T_getFrame_4 : decode b_T_getFrame 4 = .ok (.istore_n 1, 1) := by decide +kernel
theorem d_T_getFrame_5 : decode b_T_getFrame 5 = .ok (.iload_n 1, 1) := by decide +kernel
theorem d_T_getFrame_6 : decode b_T_getFrame 6 = .ok (.ifCond .lt 5, 3) := by decide +kernel
theorem d_T_getFrame_9 : decode b_T_getFrame 9 = .ok (.iload_n 1, 1) := by decide +kernel
theorem d_T_getFrame_10 : decode b_T_getFrame 10 = .ok (.ireturn, 1) := by decide +kernel
theorem d_T_getFrame_11 : decode b_T_getFrame 11 = .ok (.aload_n 0, 1) := by decide +kernel
theorem d_T_getFrame_12 : decode b_T_getFrame 12 = .ok (.getfield 7, 3) := by decide +kernel
theorem d_T_getFrame_15 : decode b_T_getFrame 15 = .ok (.aload_n 0, 1) := by decide +kernel
theorem d_T_getFrame_16 : decode b_T_getFrame 16 = .ok (.getfield 40, 3) := by decide +kernel
theorem d_T_getFrame_19 : decode b_T_getFrame 19 = .ok (.baload, 1) := by decide +kernel
theorem d_T_getFrame_20 : decode b_T_getFrame 20 = .ok (.ifCond .eq 20, 3) := by decide +kernel
theorem d_T_getFrame_23 : decode b_T_getFrame 23 = .ok (.aload_n 0, 1) := by decide +kernel
theorem d_T_getFrame_24 : decode b_T_getFrame 24 = .ok (.getfield 7, 3) := by decide +kernel
theorem d_T_getFrame_27 : decode b_T_getFrame 27 = .ok (.aload_n 0, 1) := by decide +kernel
theorem d_T_getFrame_28 : decode b_T_getFrame 28 = .ok (.getfield 40, 3) := by decide +kernel
theorem d_T_getFrame_31 : decode b_T_getFrame 31 = .ok (.iconst 0, 1) := by decide +kernel
theorem d_T_getFrame_32 : decode b_T_getFrame 32 = .ok (.bastore, 1) := by decide +kernel
theorem d_T_getFrame_33 : decode b_T_getFrame 33 = .ok (.aload_n 0, 1) := by decide +kernel
theorem d_T_getFrame_34 : decode b_T_getFrame 34 = .ok (.invokevirtual 47, 3) := by decide +kernel
theorem d_T_getFrame_37 : decode b_T_getFrame 37 = .ok (.goto (-26), 3) := by decide +kernel
theorem d_T_getFrame_40 : decode b_T_getFrame 40 = .ok (.aload_n 0, 1) := by decide +kernel
theorem d_T_getFrame_41 : decode b_T_getFrame 41 = .ok (.getfield 40, 3) := by decide +kernel
theorem d_T_getFrame_44 : decode b_T_getFrame 44 = .ok (.istore_n 2, 1) := by decide +kernel
theorem d_T_getFrame_45 : decode b_T_getFrame 45 = .ok (.aload_n 0, 1) := by decide +kernel
theorem d_T_getFrame_46 : decode b_T_getFrame 46 = .ok (.iload_n 2, 1) := by decide +kernel
theorem d_T_getFrame_47 : decode b_T_getFrame 47 = .ok (.invokevirtual 36, 3) := by decide +kernel
theorem d_T_getFrame_50 : decode b_T_getFrame 50 = .ok (.istore_n 3, 1) := by decide +kernel
theorem d_T_getFrame_51 : decode b_T_getFrame 51 = .ok (.aload_n 0, 1) := by decide +kernel
theorem d_T_getFrame_52 : decode b_T_getFrame 52 = .ok (.getfield 13, 3) := by decide +kernel
theorem d_T_getFrame_55 : decode b_T_getFrame 55 = .ok (.iload_n 3, 1) := by decide +kernel
theorem d_T_getFrame_56 : decode b_T_getFrame 56 = .ok (.aload_n 0, 1) := by decide +kernel
theorem d_T_getFrame_57 : decode b_T_getFrame 57 = .ok (.invokevirtual 50, 3) := by decide +kernel
theorem d_T_getFrame_60 : decode b_T_getFrame 60 = .ok (.iastore, 1) := by decide +kernel
theorem d_T_getFrame_61 : decode b_T_getFrame 61 = .ok (.aload_n 0, 1) := by decide +kernel
theorem d_T_getFrame_62 : decode b_T_getFrame 62 = .ok (.dup, 1) := by decide +kernel
theorem d_T_getFrame_63 : decode b_T_getFrame 63 = .ok (.getfield 53, 3) := by decide +kernel
theorem d_T_getFrame_66 : decode b_T_getFrame 66 = .ok (.iconst 1, 1) := by decide +kernel
theorem d_T_getFrame_67 : decode b_T_getFrame 67 = .ok (.iadd, 1) := by decide +kernel
theorem d_T_getFrame_68 : decode b_T_getFrame 68 = .ok (.putfield 53, 3) := by decide +kernel
theorem d_T_getFrame_71 : decode b_T_getFrame 71 = .ok (.aload_n 0, 1) := by decide +kernel
theorem d_T_getFrame_72 : decode b_T_getFrame 72 = .ok (.invokevirtual 47, 3) := by decide +kernel
theorem d_T_getFrame_75 : decode b_T_getFrame 75 = .ok (.iload_n 2, 1) := by decide +kernel
theorem d_T_getFrame_76 : decode b_T_getFrame 76 = .ok (.ireturn, 1) := by decide +kernel
theorem d_T_canMake_0 : decode b_T_canMake 0 = .ok (.aload_n 0, 1) := by decide +kernel
theorem d_T_canMake_1 : decode b_T_canMake 1 = .ok (.invokevirtual 43, 3) := by decide +kernel
theorem d_T_canMake_4 : decode b_T_canMake 4 = .ok (.ifCond .ge 10, 3) := by decide +kernel
theorem d_T_canMake_7 : decode b_T_canMake 7 = .ok (.aload_n 0, 1) := by decide +kernel
theorem d_T_canMake_8 : decode b_T_canMake 8 = .ok (.invokevirtual 50, 3) := by decide +kernel
theorem d_T_canMake_11 : decode b_T_canMake 11 = .ok (.ifCond .lt 7, 3) := by decide +kernel
theorem d_T_canMake_14 : decode b_T_canMake 14 = .ok (.iconst 1, 1) := by decide +kernel
theorem d_T_canMake_15 : decode b_T_canMake 15 = .ok (.goto 4, 3) := by decide +kernel
theorem d_T_canMake_18 : decode b_T_canMake 18 = .ok (.iconst 0, 1) := by decide +kernel
theorem d_T_canMake_19 : decode b_T_canMake 19 = .ok (.ireturn, 1) := by decide +kernel
theorem d_T_make_0 : decode b_T_make 0 = .ok (.aload_n 0, 1) := by decide +kernel
theorem d_T_make_1 : decode b_T_make 1 = .ok (.iconst (-1), 1) := by decide +kernel
theorem d_T_make_2 : decode b_T_make 2 = .ok (.invokevirtual 36, 3) := by decide +kernel
theorem d_T_make_5 : decode b_T_make 5 = .ok (.istore_n 3, 1) := by decide +kernel
theorem d_T_make_6 : decode b_T_make 6 = .ok (.aload_n 0, 1) := by decide +kernel
theorem d_T_make_7 : decode b_T_make 7 = .ok (.invokevirtual 56, 3) := by decide +kernel
theorem d_T_make_10 : decode b_T_make 10 = .ok (.istore 4, 2) := by decide +kernel
theorem d_T_make_12 : decode b_T_make 12 = .ok (.aload_n 0, 1) := by decide +kernel
theorem d_T_make_13 : decode b_T_make 13 = .ok (.getfield 13, 3) := by decide +kernel
theorem d_T_make_16 : decode b_T_make 16 = .ok (.iload_n 3, 1) := by decide +kernel
theorem d_T_make_17 : decode b_T_make 17 = .ok (.iload 4, 2) := by decide +kernel
theorem d_T_make_19 : decode b_T_make 19 = .ok (.iastore, 1) := by decide +kernel
theorem d_T_make_20 : decode b_T_make 20 = .ok (.iconst 0, 1) := by decide +kernel
theorem d_T_make_21 : decode b_T_make 21 = .ok (.istore 5, 2) := by decide +kernel
theorem d_T_make_23 : decode b_T_make 23 = .ok (.iload 5, 2) := by decide +kernel
theorem d_T_make_25 : decode b_T_make 25 = .ok (.iconst 4, 1) := by decide +kernel
theorem d_T_make_26 : decode b_T_make 26 = .ok (.if_icmp .ge 39, 3) := by decide +kernel
theorem d_T_make_29 : decode b_T_make 29 = .ok (.aload_n 0, 1) := by decide +kernel
theorem d_T_make_30 : decode b_T_make 30 = .ok (.getfield 17, 3) := by decide +kernel
theorem d_T_make_33 : decode b_T_make 33 = .ok (.iconst 4, 1) := by decide +kernel
theorem d_T_make_34 : decode b_T_make 34 = .ok (.iload_n 3, 1) := by decide +kernel
theorem d_T_make_35 : decode b_T_make 35 = .ok (.imul, 1) := by decide +kernel
theorem d_T_make_36 : decode b_T_make 36 = .ok (.iload 5, 2) := by decide +kernel
theorem d_T_make_38 : decode b_T_make 38 = .ok (.iadd, 1) := by decide +kernel
theorem d_T_make_39 : decode b_T_make 39 = .ok (.iload_n 2, 1) := by decide +kernel
theorem d_T_make_40 : decode b_T_make 40 = .ok (.ifCond .ge 7, 3) := by decide +kernel
theorem d_T_make_43 : decode b_T_make 43 = .ok (.iconst 0, 1) := by decide +kernel
theorem d_T_make_44 : decode b_T_make 44 = .ok (.goto 14, 3) := by decide +kernel
theorem d_T_make_47 : decode b_T_make 47 = .ok (.aload_n 0, 1) := by decide +kernel
theorem d_T_make_48 : decode b_T_make 48 = .ok (.getfield 17, 3) := by decide +kernel
theorem d_T_make_51 : decode b_T_make 51 = .ok (.iconst 4, 1) := by decide +kernel
theorem d_T_make_52 : decode b_T_make 52 = .ok (.iload_n 2, 1) := by decide +kernel
theorem d_T_make_53 : decode b_T_make 53 = .ok (.imul, 1) := by decide +kernel
theorem d_T_make_54 : decode b_T_make 54 = .ok (.iload 5, 2) := by decide +kernel
theorem d_T_make_56 : decode b_T_make 56 = .ok (.iadd, 1) := by decide +kernel
theorem d_T_make_57 : decode b_T_make 57 = .ok (.iaload, 1) := by decide +kernel
theorem d_T_make_58 : decode b_T_make 58 = .ok (.iastore, 1) := by decide +kernel
theorem d_T_make_59 : decode b_T_make 59 = .ok (.iinc 5 1, 3) := by decide +kernel
theorem d_T_make_62 : decode b_T_make 62 = .ok (.goto (-39), 3) := by decide +kernel
theorem d_T_make_65 : decode b_T_make 65 = .ok (.aload_n 0, 1) := by decide +kernel
theorem d_T_make_66 : decode b_T_make 66 = .ok (.getfield 23, 3) := by decide +kernel
theorem d_T_make_69 : decode b_T_make 69 = .ok (.iload_n 1, 1) := by decide +kernel
theorem d_T_make_70 : decode b_T_make 70 = .ok (.iload_n 3, 1) := by decide +kernel
theorem d_T_make_71 : decode b_T_make 71 = .ok (.iastore, 1) := by decide +kernel
theorem d_T_make_72 : decode b_T_make 72 = .ok (.aload_n 0, 1) := by decide +kernel
theorem d_T_make_73 : decode b_T_make 73 = .ok (.dup, 1) := by decide +kernel
theorem d_T_make_74 : decode b_T_make 74 = .ok (.getfield 59, 3) := by decide +kernel
theorem d_T_make_77 : decode b_T_make 77 = .ok (.iconst 1, 1) := by decide +kernel
theorem d_T_make_78 : decode b_T_make 78 = .ok (.iadd, 1) := by decide +kernel
theorem d_T_make_79 : decode b_T_make 79 = .ok (.putfield 59, 3) := by decide +kernel
theorem d_T_make_82 : decode b_T_make 82 = .ok (.return_, 1) := by decide +kernel
theorem d_T_bringIn_0 : decode b_T_bringIn 0 = .ok (.aload_n 0, 1) := by decide +kernel
theorem d_T_bringIn_1 : decode b_T_bringIn 1 = .ok (.getfield 13, 3) := by decide +kernel
theorem d_T_bringIn_4 : decode b_T_bringIn 4 = .ok (.iload_n 1, 1) := by decide +kernel
theorem d_T_bringIn_5 : decode b_T_bringIn 5 = .ok (.iaload, 1) := by decide +kernel
theorem d_T_bringIn_6 : decode b_T_bringIn 6 = .ok (.bipush 100, 2) := by decide +kernel
theorem d_T_bringIn_8 : decode b_T_bringIn 8 = .ok (.if_icmp .lt 32, 3) := by decide +kernel
theorem d_T_bringIn_11 : decode b_T_bringIn 11 = .ok (.aload_n 0, 1) := by decide +kernel
theorem d_T_bringIn_12 : decode b_T_bringIn 12 = .ok (.getfield 13, 3) := by decide +kernel
theorem d_T_bringIn_15 : decode b_T_bringIn 15 = .ok (.iload_n 1, 1) := by decide +kernel
theorem d_T_bringIn_16 : decode b_T_bringIn 16 = .ok (.iconst (-1), 1) := by decide +kernel
theorem d_T_bringIn_17 : decode b_T_bringIn 17 = .ok (.iastore, 1) := by decide +kernel
theorem d_T_bringIn_18 : decode b_T_bringIn 18 = .ok (.aload_n 0, 1) := by decide +kernel
theorem d_T_bringIn_19 : decode b_T_bringIn 19 = .ok (.invokevirtual 56, 3) := by decide +kernel
theorem d_T_bringIn_22 : decode b_T_bringIn 22 = .ok (.istore_n 2, 1) := by decide +kernel
theorem d_T_bringIn_23 : decode b_T_bringIn 23 = .ok (.aload_n 0, 1) := by decide +kernel
theorem d_T_bringIn_24 : decode b_T_bringIn 24 = .ok (.getfield 13, 3) := by decide +kernel
theorem d_T_bringIn_27 : decode b_T_bringIn 27 = .ok (.iload_n 1, 1) := by decide +kernel
theorem d_T_bringIn_28 : decode b_T_bringIn 28 = .ok (.iload_n 2, 1) := by decide +kernel
theorem d_T_bringIn_29 : decode b_T_bringIn 29 = .ok (.iastore, 1) := by decide +kernel
theorem d_T_bringIn_30 : decode b_T_bringIn 30 = .ok (.aload_n 0, 1) := by decide +kernel
theorem d_T_bringIn_31 : decode b_T_bringIn 31 = .ok (.dup, 1) := by decide +kernel
theorem d_T_bringIn_32 : decode b_T_bringIn 32 = .ok (.getfield 59, 3) := by decide +kernel
theorem d_T_bringIn_35 : decode b_T_bringIn 35 = .ok (.iconst 1, 1) := by decide +kernel
theorem d_T_bringIn_36 : decode b_T_bringIn 36 = .ok (.iadd, 1) := by decide +kernel
theorem d_T_bringIn_37 : decode b_T_bringIn 37 = .ok (.putfield 59, 3) := by decide +kernel
theorem d_T_bringIn_40 : decode b_T_bringIn 40 = .ok (.return_, 1) := by decide +kernel
theorem d_T_empty_0 : decode b_T_empty 0 = .ok (.aload_n 0, 1) := by decide +kernel
theorem d_T_empty_1 : decode b_T_empty 1 = .ok (.getfield 23, 3) := by decide +kernel
theorem d_T_empty_4 : decode b_T_empty 4 = .ok (.iload_n 1, 1) := by decide +kernel
theorem d_T_empty_5 : decode b_T_empty 5 = .ok (.iaload, 1) := by decide +kernel
theorem d_T_empty_6 : decode b_T_empty 6 = .ok (.istore_n 2, 1) := by decide +kernel
theorem d_T_empty_7 : decode b_T_empty 7 = .ok (.aload_n 0, 1) := by decide +kernel
theorem d_T_empty_8 : decode b_T_empty 8 = .ok (.getfield 23, 3) := by decide +kernel
theorem d_T_empty_11 : decode b_T_empty 11 = .ok (.iload_n 1, 1) := by decide +kernel
theorem d_T_empty_12 : decode b_T_empty 12 = .ok (.iconst (-1), 1) := by decide +kernel
theorem d_T_empty_13 : decode b_T_empty 13 = .ok (.iastore, 1) := by decide +kernel
theorem d_T_empty_14 : decode b_T_empty 14 = .ok (.iload_n 2, 1) := by decide +kernel
theorem d_T_empty_15 : decode b_T_empty 15 = .ok (.ifCond .lt 11, 3) := by decide +kernel
theorem d_T_empty_18 : decode b_T_empty 18 = .ok (.aload_n 0, 1) := by decide +kernel
theorem d_T_empty_19 : decode b_T_empty 19 = .ok (.iload_n 2, 1) := by decide +kernel
theorem d_T_empty_20 : decode b_T_empty 20 = .ok (.invokevirtual 62, 3) := by decide +kernel
theorem d_T_empty_23 : decode b_T_empty 23 = .ok (.ifCond .le 5, 3) := by decide +kernel
theorem d_T_empty_26 : decode b_T_empty 26 = .ok (.iconst 0, 1) := by decide +kernel
theorem d_T_empty_27 : decode b_T_empty 27 = .ok (.ireturn, 1) := by decide +kernel
theorem d_T_empty_28 : decode b_T_empty 28 = .ok (.aload_n 0, 1) := by decide +kernel
theorem d_T_empty_29 : decode b_T_empty 29 = .ok (.getfield 13, 3) := by decide +kernel
theorem d_T_empty_32 : decode b_T_empty 32 = .ok (.iload_n 2, 1) := by decide +kernel
theorem d_T_empty_33 : decode b_T_empty 33 = .ok (.iaload, 1) := by decide +kernel
theorem d_T_empty_34 : decode b_T_empty 34 = .ok (.bipush 100, 2) := by decide +kernel
theorem d_T_empty_36 : decode b_T_empty 36 = .ok (.if_icmp .ge 15, 3) := by decide +kernel
theorem d_T_empty_39 : decode b_T_empty 39 = .ok (.aload_n 0, 1) := by decide +kernel
theorem d_T_empty_40 : decode b_T_empty 40 = .ok (.getfield 7, 3) := by decide +kernel
theorem d_T_empty_43 : decode b_T_empty 43 = .ok (.aload_n 0, 1) := by decide +kernel
theorem d_T_empty_44 : decode b_T_empty 44 = .ok (.getfield 13, 3) := by decide +kernel
theorem d_T_empty_47 : decode b_T_empty 47 = .ok (.iload_n 2, 1) := by decide +kernel
theorem d_T_empty_48 : decode b_T_empty 48 = .ok (.iaload, 1) := by decide +kernel
theorem d_T_empty_49 : decode b_T_empty 49 = .ok (.iconst 0, 1) := by decide +kernel
theorem d_T_empty_50 : decode b_T_empty 50 = .ok (.bastore, 1) := by decide +kernel
theorem d_T_empty_51 : decode b_T_empty 51 = .ok (.aload_n 0, 1) := by decide +kernel
theorem d_T_empty_52 : decode b_T_empty 52 = .ok (.getfield 13, 3) := by decide +kernel
theorem d_T_empty_55 : decode b_T_empty 55 = .ok (.iload_n 2, 1) := by decide +kernel
theorem d_T_empty_56 : decode b_T_empty 56 = .ok (.iconst (-1), 1) := by decide +kernel
theorem d_T_empty_57 : decode b_T_empty 57 = .ok (.iastore, 1) := by decide +kernel
theorem d_T_empty_58 : decode b_T_empty 58 = .ok (.iconst 1, 1) := by decide +kernel
theorem d_T_empty_59 : decode b_T_empty 59 = .ok (.ireturn, 1) := by decide +kernel
theorem d_T_isProcess_0 : decode b_T_isProcess 0 = .ok (.iload_n 1, 1) := by decide +kernel
theorem d_T_isProcess_1 : decode b_T_isProcess 1 = .ok (.ifCond .lt 22, 3) := by decide +kernel
theorem d_T_isProcess_4 : decode b_T_isProcess 4 = .ok (.iload_n 1, 1) := by decide +kernel
theorem d_T_isProcess_5 : decode b_T_isProcess 5 = .ok (.bipush 6, 2) := by decide +kernel
theorem d_T_isProcess_7 : decode b_T_isProcess 7 = .ok (.if_icmp .ge 16, 3) := by decide +kernel
theorem d_T_isProcess_10 : decode b_T_isProcess 10 = .ok (.aload_n 0, 1) := by decide +kernel
theorem d_T_isProcess_11 : decode b_T_isProcess 11 = .ok (.getfield 20, 3) := by decide +kernel
theorem d_T_isProcess_14 : decode b_T_isProcess 14 = .ok (.iload_n 1, 1) := by decide +kernel
theorem d_T_isProcess_15 : decode b_T_isProcess 15 = .ok (.baload, 1) := by decide +kernel
theorem d_T_isProcess_16 : decode b_T_isProcess 16 = .ok (.ifCond .eq 7, 3) := by decide +kernel
theorem d_T_isProcess_19 : decode b_T_isProcess 19 = .ok (.iconst 1, 1) := by decide +kernel
theorem d_T_isProcess_20 : decode b_T_isProcess 20 = .ok (.goto 4, 3) := by decide +kernel
theorem d_T_isProcess_23 : decode b_T_isProcess 23 = .ok (.iconst 0, 1) := by decide +kernel
theorem d_T_isProcess_24 : decode b_T_isProcess 24 = .ok (.ireturn, 1) := by decide +kernel
theorem d_T_lowestProcess_0 : decode b_T_lowestProcess 0 = .ok (.iconst 0, 1) := by decide +kernel
theorem d_T_lowestProcess_1 : decode b_T_lowestProcess 1 = .ok (.istore_n 1, 1) := by decide +kernel
theorem d_T_lowestProcess_2 : decode b_T_lowestProcess 2 = .ok (.iload_n 1, 1) := by decide +kernel
theorem d_T_lowestProcess_3 : decode b_T_lowestProcess 3 = .ok (.bipush 6, 2) := by decide +kernel
theorem d_T_lowestProcess_5 : decode b_T_lowestProcess 5 = .ok (.if_icmp .ge 20, 3) := by decide +kernel
theorem d_T_lowestProcess_8 : decode b_T_lowestProcess 8 = .ok (.aload_n 0, 1) := by decide +kernel
theorem d_T_lowestProcess_9 : decode b_T_lowestProcess 9 = .ok (.getfield 20, 3) := by decide +kernel
theorem d_T_lowestProcess_12 : decode b_T_lowestProcess 12 = .ok (.iload_n 1, 1) := by decide +kernel
theorem d_T_lowestProcess_13 : decode b_T_lowestProcess 13 = .ok (.baload, 1) := by decide +kernel
theorem d_T_lowestProcess_14 : decode b_T_lowestProcess 14 = .ok (.ifCond .ne 5, 3) := by decide +kernel
theorem d_T_lowestProcess_17 : decode b_T_lowestProcess 17 = .ok (.iload_n 1, 1) := by decide +kernel
theorem d_T_lowestProcess_18 : decode b_T_lowestProcess 18 = .ok (.ireturn, 1) := by decide +kernel
theorem d_T_lowestProcess_19 : decode b_T_lowestProcess 19 = .ok (.iinc 1 1, 3) := by decide +kernel
theorem d_T_lowestProcess_22 : decode b_T_lowestProcess 22 = .ok (.goto (-20), 3) := by decide +kernel
theorem d_T_lowestProcess_25 : decode b_T_lowestProcess 25 = .ok (.iconst (-1), 1) := by decide +kernel
theorem d_T_lowestProcess_26 : decode b_T_lowestProcess 26 = .ok (.ireturn, 1) := by decide +kernel
theorem d_T_spawn_0 : decode b_T_spawn 0 = .ok (.aload_n 0, 1) := by decide +kernel
theorem d_T_spawn_1 : decode b_T_spawn 1 = .ok (.invokevirtual 65, 3) := by decide +kernel
theorem d_T_spawn_4 : decode b_T_spawn 4 = .ok (.istore_n 1, 1) := by decide +kernel
theorem d_T_spawn_5 : decode b_T_spawn 5 = .ok (.aload_n 0, 1) := by decide +kernel
theorem d_T_spawn_6 : decode b_T_spawn 6 = .ok (.iload_n 1, 1) := by decide +kernel
theorem d_T_spawn_7 : decode b_T_spawn 7 = .ok (.ifCond .ge 7, 3) := by decide +kernel
theorem d_T_spawn_10 : decode b_T_spawn 10 = .ok (.iconst 1, 1) := by decide +kernel
theorem d_T_spawn_11 : decode b_T_spawn 11 = .ok (.goto 4, 3) := by decide +kernel
theorem d_T_spawn_14 : decode b_T_spawn 14 = .ok (.iconst 0, 1) := by decide +kernel
theorem d_T_spawn_15 : decode b_T_spawn 15 = .ok (.putfield 33, 3) := by decide +kernel
theorem d_T_spawn_18 : decode b_T_spawn 18 = .ok (.aload_n 0, 1) := by decide +kernel
theorem d_T_spawn_19 : decode b_T_spawn 19 = .ok (.getfield 33, 3) := by decide +kernel
theorem d_T_spawn_22 : decode b_T_spawn 22 = .ok (.ifCond .le 5, 3) := by decide +kernel
theorem d_T_spawn_25 : decode b_T_spawn 25 = .ok (.iconst 0, 1) := by decide +kernel
theorem d_T_spawn_26 : decode b_T_spawn 26 = .ok (.ireturn, 1) := by decide +kernel
theorem d_T_spawn_27 : decode b_T_spawn 27 = .ok (.aload_n 0, 1) := by decide +kernel
theorem d_T_spawn_28 : decode b_T_spawn 28 = .ok (.getfield 20, 3) := by decide +kernel
theorem d_T_spawn_31 : decode b_T_spawn 31 = .ok (.iload_n 1, 1) := by decide +kernel
theorem d_T_spawn_32 : decode b_T_spawn 32 = .ok (.iconst 1, 1) := by decide +kernel
theorem d_T_spawn_33 : decode b_T_spawn 33 = .ok (.bastore, 1) := by decide +kernel
theorem d_T_spawn_34 : decode b_T_spawn 34 = .ok (.iload_n 1, 1) := by decide +kernel
theorem d_T_spawn_35 : decode b_T_spawn 35 = .ok (.ireturn, 1) := by decide +kernel
theorem d_T_fork_0 : decode b_T_fork 0 = .ok (.aload_n 0, 1) := by decide +kernel
theorem d_T_fork_1 : decode b_T_fork 1 = .ok (.invokevirtual 65, 3) := by decide +kernel
theorem d_T_fork_4 : decode b_T_fork 4 = .ok (.istore_n 2, 1) := by decide +kernel
theorem d_T_fork_5 : decode b_T_fork 5 = .ok (.aload_n 0, 1) := by decide +kernel
theorem d_T_fork_6 : decode b_T_fork 6 = .ok (.aload_n 0, 1) := by decide +kernel
theorem d_T_fork_7 : decode b_T_fork 7 = .ok (.iload_n 1, 1) := by decide +kernel
theorem d_T_fork_8 : decode b_T_fork 8 = .ok (.invokevirtual 68, 3) := by decide +kernel
theorem d_T_fork_11 : decode b_T_fork 11 = .ok (.ifCond .ne 7, 3) := by decide +kernel
theorem d_T_fork_14 : decode b_T_fork 14 = .ok (.iconst 1, 1) := by decide +kernel
theorem d_T_fork_15 : decode b_T_fork 15 = .ok (.goto 12, 3) := by decide +kernel
theorem d_T_fork_18 : decode b_T_fork 18 = .ok (.iload_n 2, 1) := by decide +kernel
theorem d_T_fork_19 : decode b_T_fork 19 = .ok (.ifCond .ge 7, 3) := by decide +kernel
theorem d_T_fork_22 : decode b_T_fork 22 = .ok (.iconst 2, 1) := by decide +kernel
theorem d_T_fork_23 : decode b_T_fork 23 = .ok (.goto 4, 3) := by decide +kernel
theorem d_T_fork_26 : decode b_T_fork 26 = .ok (.iconst 0, 1) := by decide +kernel
theorem d_T_fork_27 : decode b_T_fork 27 = .ok (.putfield 33, 3) := by decide +kernel
theorem d_T_fork_30 : decode b_T_fork 30 = .ok (.aload_n 0, 1) := by decide +kernel
theorem d_T_fork_31 : decode b_T_fork 31 = .ok (.getfield 33, 3) := by decide +kernel
theorem d_T_fork_34 : decode b_T_fork 34 = .ok (.ifCond .le 5, 3) := by decide +kernel
theorem d_T_fork_37 : decode b_T_fork 37 = .ok (.iconst 0, 1) := by decide +kernel
theorem d_T_fork_38 : decode b_T_fork 38 = .ok (.ireturn, 1) := by decide +kernel
theorem d_T_fork_39 : decode b_T_fork 39 = .ok (.aload_n 0, 1) := by decide +kernel
theorem d_T_fork_40 : decode b_T_fork 40 = .ok (.getfield 20, 3) := by decide +kernel
theorem d_T_fork_43 : decode b_T_fork 43 = .ok (.iload_n 2, 1) := by decide +kernel
theorem d_T_fork_44 : decode b_T_fork 44 = .ok (.iconst 1, 1) := by decide +kernel
theorem d_T_fork_45 : decode b_T_fork 45 = .ok (.bastore, 1) := by decide +kernel
theorem d_T_fork_46 : decode b_T_fork 46 = .ok (.iconst 0, 1) := by decide +kernel
theorem d_T_fork_47 : decode b_T_fork 47 = .ok (.istore_n 3, 1) := by decide +kernel
theorem d_T_fork_48 : decode b_T_fork 48 = .ok (.iload_n 3, 1) := by decide +kernel
theorem d_T_fork_49 : decode b_T_fork 49 = .ok (.bipush 6, 2) := by decide +kernel
theorem d_T_fork_51 : decode b_T_fork 51 = .ok (.if_icmp .ge 31, 3) := by decide +kernel
theorem d_T_fork_54 : decode b_T_fork 54 = .ok (.aload_n 0, 1) := by decide +kernel
theorem d_T_fork_55 : decode b_T_fork 55 = .ok (.getfield 23, 3) := by decide +kernel
theorem d_T_fork_58 : decode b_T_fork 58 = .ok (.bipush 6, 2) := by decide +kernel
theorem d_T_fork_60 : decode b_T_fork 60 = .ok (.iload_n 2, 1) := by decide +kernel
theorem d_T_fork_61 : decode b_T_fork 61 = .ok (.imul, 1) := by decide +kernel
theorem d_T_fork_62 : decode b_T_fork 62 = .ok (.iload_n 3, 1) := by decide +kernel
theorem d_T_fork_63 : decode b_T_fork 63 = .ok (.iadd, 1) := by decide +kernel
theorem d_T_fork_64 : decode b_T_fork 64 = .ok (.aload_n 0, 1) := by decide +kernel
theorem d_T_fork_65 : decode b_T_fork 65 = .ok (.getfield 23, 3) := by decide +kernel
theorem d_T_fork_68 : decode b_T_fork 68 = .ok (.bipush 6, 2) := by decide +kernel
theorem d_T_fork_70 : decode b_T_fork 70 = .ok (.iload_n 1, 1) := by decide +kernel
theorem d_T_fork_71 : decode b_T_fork 71 = .ok (.imul, 1) := by decide +kernel
theorem d_T_fork_72 : decode b_T_fork 72 = .ok (.iload_n 3, 1) := by decide +kernel
theorem d_T_fork_73 : decode b_T_fork 73 = .ok (.iadd, 1) := by decide +kernel
theorem d_T_fork_74 : decode b_T_fork 74 = .ok (.iaload, 1) := by decide +kernel
theorem d_T_fork_75 : decode b_T_fork 75 = .ok (.iastore, 1) := by decide +kernel
theorem d_T_fork_76 : decode b_T_fork 76 = .ok (.iinc 3 1, 3) := by decide +kernel
theorem d_T_fork_79 : decode b_T_fork 79 = .ok (.goto (-31), 3) := by decide +kernel
theorem d_T_fork_82 : decode b_T_fork 82 = .ok (.iload_n 2, 1) := by decide +kernel
theorem d_T_fork_83 : decode b_T_fork 83 = .ok (.ireturn, 1) := by decide +kernel
theorem d_T_exit_0 : decode b_T_exit 0 = .ok (.aload_n 0, 1) := by decide +kernel
theorem d_T_exit_1 : decode b_T_exit 1 = .ok (.aload_n 0, 1) := by decide +kernel
theorem d_T_exit_2 : decode b_T_exit 2 = .ok (.iload_n 1, 1) := by decide +kernel
theorem d_T_exit_3 : decode b_T_exit 3 = .ok (.invokevirtual 68, 3) := by decide +kernel
theorem d_T_exit_6 : decode b_T_exit 6 = .ok (.ifCond .eq 7, 3) := by decide +kernel
theorem d_T_exit_9 : decode b_T_exit 9 = .ok (.iconst 0, 1) := by decide +kernel
theorem d_T_exit_10 : decode b_T_exit 10 = .ok (.goto 4, 3) := by decide +kernel
theorem d_T_exit_13 : decode b_T_exit 13 = .ok (.iconst 1, 1) := by decide +kernel
theorem d_T_exit_14 : decode b_T_exit 14 = .ok (.putfield 33, 3) := by decide +kernel
theorem d_T_exit_17 : decode b_T_exit 17 = .ok (.aload_n 0, 1) := by decide +kernel
theorem d_T_exit_18 : decode b_T_exit 18 = .ok (.getfield 33, 3) := by decide +kernel
theorem d_T_exit_21 : decode b_T_exit 21 = .ok (.ifCond .le 5, 3) := by decide +kernel
theorem d_T_exit_24 : decode b_T_exit 24 = .ok (.iconst 0, 1) := by decide +kernel
theorem d_T_exit_25 : decode b_T_exit 25 = .ok (.ireturn, 1) := by decide +kernel
theorem d_T_exit_26 : decode b_T_exit 26 = .ok (.aload_n 0, 1) := by decide +kernel
theorem d_T_exit_27 : decode b_T_exit 27 = .ok (.getfield 20, 3) := by decide +kernel
theorem d_T_exit_30 : decode b_T_exit 30 = .ok (.iload_n 1, 1) := by decide +kernel
theorem d_T_exit_31 : decode b_T_exit 31 = .ok (.iconst 0, 1) := by decide +kernel
theorem d_T_exit_32 : decode b_T_exit 32 = .ok (.bastore, 1) := by decide +kernel
theorem d_T_exit_33 : decode b_T_exit 33 = .ok (.iconst 0, 1) := by decide +kernel
theorem d_T_exit_34 : decode b_T_exit 34 = .ok (.istore_n 2, 1) := by decide +kernel
theorem d_T_exit_35 : decode b_T_exit 35 = .ok (.iconst 0, 1) := by decide +kernel
theorem d_T_exit_36 : decode b_T_exit 36 = .ok (.istore_n 3, 1) := by decide +kernel
theorem d_T_exit_37 : decode b_T_exit 37 = .ok (.iload_n 3, 1) := by decide +kernel
theorem d_T_exit_38 : decode b_T_exit 38 = .ok (.bipush 6, 2) := by decide +kernel
theorem d_T_exit_40 : decode b_T_exit 40 = .ok (.if_icmp .ge 30, 3) := by decide +kernel
theorem d_T_exit_43 : decode b_T_exit 43 = .ok (.aload_n 0, 1) := by decide +kernel
theorem d_T_exit_44 : decode b_T_exit 44 = .ok (.bipush 6, 2) := by decide +kernel
theorem d_T_exit_46 : decode b_T_exit 46 = .ok (.iload_n 1, 1) := by decide +kernel
theorem d_T_exit_47 : decode b_T_exit 47 = .ok (.imul, 1) := by decide +kernel
theorem d_T_exit_48 : decode b_T_exit 48 = .ok (.iload_n 3, 1) := by decide +kernel
theorem d_T_exit_49 : decode b_T_exit 49 = .ok (.iadd, 1) := by decide +kernel
theorem d_T_exit_50 : decode b_T_exit 50 = .ok (.invokevirtual 72, 3) := by decide +kernel
theorem d_T_exit_53 : decode b_T_exit 53 = .ok (.ifCond .eq 9, 3) := by decide +kernel
theorem d_T_exit_56 : decode b_T_exit 56 = .ok (.iload_n 2, 1) := by decide +kernel
theorem d_T_exit_57 : decode b_T_exit 57 = .ok (.iconst 1, 1) := by decide +kernel
theorem d_T_exit_58 : decode b_T_exit 58 = .ok (.iadd, 1) := by decide +kernel
theorem d_T_exit_59 : decode b_T_exit 59 = .ok (.goto 4, 3) := by decide +kernel
theorem d_T_exit_62 : decode b_T_exit 62 = .ok (.iload_n 2, 1) := by decide +kernel
theorem d_T_exit_63 : decode b_T_exit 63 = .ok (.istore_n 2, 1) := by decide +kernel
theorem d_T_exit_64 : decode b_T_exit 64 = .ok (.iinc 3 1, 3) := by decide +kernel
theorem d_T_exit_67 : decode b_T_exit 67 = .ok (.goto (-30), 3) := by decide +kernel
theorem d_T_exit_70 : decode b_T_exit 70 = .ok (.iload_n 2, 1) := by decide +kernel
theorem d_T_exit_71 : decode b_T_exit 71 = .ok (.ireturn, 1) := by decide +kernel
theorem d_T_drop_0 : decode b_T_drop 0 = .ok (.aload_n 0, 1) := by decide +kernel
theorem d_T_drop_1 : decode b_T_drop 1 = .ok (.aload_n 0, 1) := by decide +kernel
theorem d_T_drop_2 : decode b_T_drop 2 = .ok (.iload_n 1, 1) := by decide +kernel
theorem d_T_drop_3 : decode b_T_drop 3 = .ok (.invokevirtual 68, 3) := by decide +kernel
theorem d_T_drop_6 : decode b_T_drop 6 = .ok (.ifCond .ne 7, 3) := by decide +kernel
theorem d_T_drop_9 : decode b_T_drop 9 = .ok (.iconst 1, 1) := by decide +kernel
theorem d_T_drop_10 : decode b_T_drop 10 = .ok (.goto 17, 3) := by decide +kernel
theorem d_T_drop_13 : decode b_T_drop 13 = .ok (.iload_n 2, 1) := by decide +kernel
theorem d_T_drop_14 : decode b_T_drop 14 = .ok (.ifCond .lt 8, 3) := by decide +kernel
theorem d_T_drop_17 : decode b_T_drop 17 = .ok (.iload_n 2, 1) := by decide +kernel
theorem d_T_drop_18 : decode b_T_drop 18 = .ok (.iconst 5, 1) := by decide +kernel
theorem d_T_drop_19 : decode b_T_drop 19 = .ok (.if_icmp .le 7, 3) := by decide +kernel
theorem d_T_drop_22 : decode b_T_drop 22 = .ok (.iconst 2, 1) := by decide +kernel
theorem d_T_drop_23 : decode b_T_drop 23 = .ok (.goto 4, 3) := by decide +kernel
theorem d_T_drop_26 : decode b_T_drop 26 = .ok (.iconst 0, 1) := by decide +kernel
theorem d_T_drop_27 : decode b_T_drop 27 = .ok (.putfield 33, 3) := by decide +kernel
theorem d_T_drop_30 : decode b_T_drop 30 = .ok (.aload_n 0, 1) := by decide +kernel
theorem d_T_drop_31 : decode b_T_drop 31 = .ok (.getfield 33, 3) := by decide +kernel
theorem d_T_drop_34 : decode b_T_drop 34 = .ok (.ifCond .ne 20, 3) := by decide +kernel
theorem d_T_drop_37 : decode b_T_drop 37 = .ok (.aload_n 0, 1) := by decide +kernel
theorem d_T_drop_38 : decode b_T_drop 38 = .ok (.bipush 6, 2) := by decide +kernel
theorem d_T_drop_40 : decode b_T_drop 40 = .ok (.iload_n 1, 1) := by decide +kernel
theorem d_T_drop_41 : decode b_T_drop 41 = .ok (.imul, 1) := by decide +kernel
theorem d_T_drop_42 : decode b_T_drop 42 = .ok (.iload_n 2, 1) := by decide +kernel
theorem d_T_drop_43 : decode b_T_drop 43 = .ok (.iadd, 1) := by decide +kernel
theorem d_T_drop_44 : decode b_T_drop 44 = .ok (.invokevirtual 72, 3) := by decide +kernel
theorem d_T_drop_47 : decode b_T_drop 47 = .ok (.ifCond .eq 7, 3) := by decide +kernel
theorem d_T_drop_50 : decode b_T_drop 50 = .ok (.iconst 1, 1) := by decide +kernel
theorem d_T_drop_51 : decode b_T_drop 51 = .ok (.goto 4, 3) := by decide +kernel
theorem d_T_drop_54 : decode b_T_drop 54 = .ok (.iconst 0, 1) := by decide +kernel
theorem d_T_drop_55 : decode b_T_drop 55 = .ok (.ireturn, 1) := by decide +kernel
theorem d_T_isAddress_0 : decode b_T_isAddress 0 = .ok (.iload_n 0, 1) := by decide +kernel
theorem d_T_isAddress_1 : decode b_T_isAddress 1 = .ok (.ifCond .lt 13, 3) := by decide +kernel
theorem d_T_isAddress_4 : decode b_T_isAddress 4 = .ok (.iload_n 0, 1) := by decide +kernel
theorem d_T_isAddress_5 : decode b_T_isAddress 5 = .ok (.bipush 24, 2) := by decide +kernel
theorem d_T_isAddress_7 : decode b_T_isAddress 7 = .ok (.if_icmp .ge 7, 3) := by decide +kernel
theorem d_T_isAddress_10 : decode b_T_isAddress 10 = .ok (.iconst 1, 1) := by decide +kernel
theorem d_T_isAddress_11 : decode b_T_isAddress 11 = .ok (.goto 4, 3) := by decide +kernel
theorem d_T_isAddress_14 : decode b_T_isAddress 14 = .ok (.iconst 0, 1) := by decide +kernel
theorem d_T_isAddress_15 : decode b_T_isAddress 15 = .ok (.ireturn, 1) := by decide +kernel
theorem d_T_loaded_0 : decode b_T_loaded 0 = .ok (.aload_n 0, 1) := by decide +kernel
theorem d_T_loaded_1 : decode b_T_loaded 1 = .ok (.getfield 23, 3) := by decide +kernel
theorem d_T_loaded_4 : decode b_T_loaded 4 = .ok (.bipush 6, 2) := by decide +kernel
theorem d_T_loaded_6 : decode b_T_loaded 6 = .ok (.iload_n 1, 1) := by decide +kernel
theorem d_T_loaded_7 : decode b_T_loaded 7 = .ok (.imul, 1) := by decide +kernel
theorem d_T_loaded_8 : decode b_T_loaded 8 = .ok (.iload_n 2, 1) := by decide +kernel
theorem d_T_loaded_9 : decode b_T_loaded 9 = .ok (.iconst 4, 1) := by decide +kernel
theorem d_T_loaded_10 : decode b_T_loaded 10 = .ok (.idiv, 1) := by decide +kernel
theorem d_T_loaded_11 : decode b_T_loaded 11 = .ok (.iadd, 1) := by decide +kernel
theorem d_T_loaded_12 : decode b_T_loaded 12 = .ok (.iaload, 1) := by decide +kernel
theorem d_T_loaded_13 : decode b_T_loaded 13 = .ok (.istore_n 3, 1) := by decide +kernel
theorem d_T_loaded_14 : decode b_T_loaded 14 = .ok (.iload_n 3, 1) := by decide +kernel
theorem d_T_loaded_15 : decode b_T_loaded 15 = .ok (.ifCond .ge 5, 3) := by decide +kernel
theorem d_T_loaded_18 : decode b_T_loaded 18 = .ok (.iconst 0, 1) := by decide +kernel
theorem d_T_loaded_19 : decode b_T_loaded 19 = .ok (.ireturn, 1) := by decide +kernel
theorem d_T_loaded_20 : decode b_T_loaded 20 = .ok (.aload_n 0, 1) := by decide +kernel
theorem d_T_loaded_21 : decode b_T_loaded 21 = .ok (.iload_n 3, 1) := by decide +kernel
theorem d_T_loaded_22 : decode b_T_loaded 22 = .ok (.invokevirtual 75, 3) := by decide +kernel
theorem d_T_loaded_25 : decode b_T_loaded 25 = .ok (.aload_n 0, 1) := by decide +kernel
theorem d_T_loaded_26 : decode b_T_loaded 26 = .ok (.getfield 7, 3) := by decide +kernel
theorem d_T_loaded_29 : decode b_T_loaded 29 = .ok (.aload_n 0, 1) := by decide +kernel
theorem d_T_loaded_30 : decode b_T_loaded 30 = .ok (.getfield 13, 3) := by decide +kernel
theorem d_T_loaded_33 : decode b_T_loaded 33 = .ok (.iload_n 3, 1) := by decide +kernel
theorem d_T_loaded_34 : decode b_T_loaded 34 = .ok (.iaload, 1) := by decide +kernel
theorem d_T_loaded_35 : decode b_T_loaded 35 = .ok (.iconst 1, 1) := by decide +kernel
theorem d_T_loaded_36 : decode b_T_loaded 36 = .ok (.bastore, 1) := by decide +kernel
theorem d_T_loaded_37 : decode b_T_loaded 37 = .ok (.aload_n 0, 1) := by decide +kernel
theorem d_T_loaded_38 : decode b_T_loaded 38 = .ok (.getfield 17, 3) := by decide +kernel
theorem d_T_loaded_41 : decode b_T_loaded 41 = .ok (.iconst 4, 1) := by decide +kernel
theorem d_T_loaded_42 : decode b_T_loaded 42 = .ok (.iload_n 3, 1) := by decide +kernel
theorem d_T_loaded_43 : decode b_T_loaded 43 = .ok (.imul, 1) := by decide +kernel
theorem d_T_loaded_44 : decode b_T_loaded 44 = .ok (.iload_n 2, 1) := by decide +kernel
theorem d_T_loaded_45 : decode b_T_loaded 45 = .ok (.iconst 4, 1) := by decide +kernel
theorem d_T_loaded_46 : decode b_T_loaded 46 = .ok (.irem, 1) := by decide +kernel
theorem d_T_loaded_47 : decode b_T_loaded 47 = .ok (.iadd, 1) := by decide +kernel
theorem d_T_loaded_48 : decode b_T_loaded 48 = .ok (.iaload, 1) := by decide +kernel
theorem d_T_loaded_49 : decode b_T_loaded 49 = .ok (.ireturn, 1) := by decide +kernel
