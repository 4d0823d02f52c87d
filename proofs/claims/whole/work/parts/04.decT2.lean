/-! what stands at each place of the code, by program -/
theorem d_T_needs_0 : decode b_T_needs 0 = .ok (.aload_n 0, 1) := by decide +kernel
theorem d_T_needs_1 : decode b_T_needs 1 = .ok (.getfield 23, 3) := by decide +kernel
theorem d_T_needs_4 : decode b_T_needs 4 = .ok (.bipush 6, 2) := by decide +kernel
theorem d_T_needs_6 : decode b_T_needs 6 = .ok (.iload_n 1, 1) := by decide +kernel
theorem d_T_needs_7 : decode b_T_needs 7 = .ok (.imul, 1) := by decide +kernel
theorem d_T_needs_8 : decode b_T_needs 8 = .ok (.iload_n 2, 1) := by decide +kernel
theorem d_T_needs_9 : decode b_T_needs 9 = .ok (.iconst 4, 1) := by decide +kernel
theorem d_T_needs_10 : decode b_T_needs 10 = .ok (.idiv, 1) := by decide +kernel
theorem d_T_needs_11 : decode b_T_needs 11 = .ok (.iadd, 1) := by decide +kernel
theorem d_T_needs_12 : decode b_T_needs 12 = .ok (.iaload, 1) := by decide +kernel
theorem d_T_needs_13 : decode b_T_needs 13 = .ok (.istore_n 3, 1) := by decide +kernel
theorem d_T_needs_14 : decode b_T_needs 14 = .ok (.iload_n 3, 1) := by decide +kernel
theorem d_T_needs_15 : decode b_T_needs 15 = .ok (.ifCond .lt 12, 3) := by decide +kernel
theorem d_T_needs_18 : decode b_T_needs 18 = .ok (.aload_n 0, 1) := by decide +kernel
theorem d_T_needs_19 : decode b_T_needs 19 = .ok (.iload_n 3, 1) := by decide +kernel
theorem d_T_needs_20 : decode b_T_needs 20 = .ok (.invokevirtual 62, 3) := by decide +kernel
theorem d_T_needs_23 : decode b_T_needs 23 = .ok (.iconst 1, 1) := by decide +kernel
theorem d_T_needs_24 : decode b_T_needs 24 = .ok (.if_icmp .le 7, 3) := by decide +kernel
theorem d_T_needs_27 : decode b_T_needs 27 = .ok (.iconst 1, 1) := by decide +kernel
theorem d_T_needs_28 : decode b_T_needs 28 = .ok (.goto 4, 3) := by decide +kernel
theorem d_T_needs_31 : decode b_T_needs 31 = .ok (.iconst 0, 1) := by decide +kernel
theorem d_T_needs_32 : decode b_T_needs 32 = .ok (.ireturn, 1) := by decide +kernel
theorem d_T_stored_0 : decode b_T_stored 0 = .ok (.bipush 6, 2) := by decide +kernel
theorem d_T_stored_2 : decode b_T_stored 2 = .ok (.iload_n 1, 1) := by decide +kernel
theorem d_T_stored_3 : decode b_T_stored 3 = .ok (.imul, 1) := by decide +kernel
theorem d_T_stored_4 : decode b_T_stored 4 = .ok (.iload_n 2, 1) := by decide +kernel
theorem d_T_stored_5 : decode b_T_stored 5 = .ok (.iconst 4, 1) := by decide +kernel
theorem d_T_stored_6 : decode b_T_stored 6 = .ok (.idiv, 1) := by decide +kernel
theorem d_T_stored_7 : decode b_T_stored 7 = .ok (.iadd, 1) := by decide +kernel
theorem d_T_stored_8 : decode b_T_stored 8 = .ok (.istore 4, 2) := by decide +kernel
theorem d_T_stored_10 : decode b_T_stored 10 = .ok (.aload_n 0, 1) := by decide +kernel
theorem d_T_stored_11 : decode b_T_stored 11 = .ok (.iload_n 1, 1) := by decide +kernel
theorem d_T_stored_12 : decode b_T_stored 12 = .ok (.iload_n 2, 1) := by decide +kernel
theorem d_T_stored_13 : decode b_T_stored 13 = .ok (.invokevirtual 79, 3) := by decide +kernel
theorem d_T_stored_16 : decode b_T_stored 16 = .ok (.ifCond .eq 19, 3) := by decide +kernel
theorem d_T_stored_19 : decode b_T_stored 19 = .ok (.aload_n 0, 1) := by decide +kernel
theorem d_T_stored_20 : decode b_T_stored 20 = .ok (.iload 4, 2) := by decide +kernel
theorem d_T_stored_22 : decode b_T_stored 22 = .ok (.aload_n 0, 1) := by decide +kernel
theorem d_T_stored_23 : decode b_T_stored 23 = .ok (.getfield 23, 3) := by decide +kernel
theorem d_T_stored_26 : decode b_T_stored 26 = .ok (.iload 4, 2) := by decide +kernel
theorem d_T_stored_28 : decode b_T_stored 28 = .ok (.iaload, 1) := by decide +kernel
theorem d_T_stored_29 : decode b_T_stored 29 = .ok (.invokevirtual 83, 3) := by decide +kernel
theorem d_T_stored_32 : decode b_T_stored 32 = .ok (.goto 14, 3) := by decide +kernel
theorem d_T_stored_35 : decode b_T_stored 35 = .ok (.aload_n 0, 1) := by decide +kernel
theorem d_T_stored_36 : decode b_T_stored 36 = .ok (.aload_n 0, 1) := by decide +kernel
theorem d_T_stored_37 : decode b_T_stored 37 = .ok (.getfield 23, 3) := by decide +kernel
theorem d_T_stored_40 : decode b_T_stored 40 = .ok (.iload 4, 2) := by decide +kernel
theorem d_T_stored_42 : decode b_T_stored 42 = .ok (.iaload, 1) := by decide +kernel
theorem d_T_stored_43 : decode b_T_stored 43 = .ok (.invokevirtual 75, 3) := by decide +kernel
theorem d_T_stored_46 : decode b_T_stored 46 = .ok (.aload_n 0, 1) := by decide +kernel
theorem d_T_stored_47 : decode b_T_stored 47 = .ok (.getfield 23, 3) := by decide +kernel
theorem d_T_stored_50 : decode b_T_stored 50 = .ok (.iload 4, 2) := by decide +kernel
theorem d_T_stored_52 : decode b_T_stored 52 = .ok (.iaload, 1) := by decide +kernel
theorem d_T_stored_53 : decode b_T_stored 53 = .ok (.istore 5, 2) := by decide +kernel
theorem d_T_stored_55 : decode b_T_stored 55 = .ok (.aload_n 0, 1) := by decide +kernel
theorem d_T_stored_56 : decode b_T_stored 56 = .ok (.getfield 7, 3) := by decide +kernel
theorem d_T_stored_59 : decode b_T_stored 59 = .ok (.aload_n 0, 1) := by decide +kernel
theorem d_T_stored_60 : decode b_T_stored 60 = .ok (.getfield 13, 3) := by decide +kernel
theorem d_T_stored_63 : decode b_T_stored 63 = .ok (.iload 5, 2) := by decide +kernel
theorem d_T_stored_65 : decode b_T_stored 65 = .ok (.iaload, 1) := by decide +kernel
theorem d_T_stored_66 : decode b_T_stored 66 = .ok (.iconst 1, 1) := by decide +kernel
theorem d_T_stored_67 : decode b_T_stored 67 = .ok (.bastore, 1) := by decide +kernel
theorem d_T_stored_68 : decode b_T_stored 68 = .ok (.aload_n 0, 1) := by decide +kernel
theorem d_T_stored_69 : decode b_T_stored 69 = .ok (.getfield 17, 3) := by decide +kernel
theorem d_T_stored_72 : decode b_T_stored 72 = .ok (.iconst 4, 1) := by decide +kernel
theorem d_T_stored_73 : decode b_T_stored 73 = .ok (.iload 5, 2) := by decide +kernel
theorem d_T_stored_75 : decode b_T_stored 75 = .ok (.imul, 1) := by decide +kernel
theorem d_T_stored_76 : decode b_T_stored 76 = .ok (.iload_n 2, 1) := by decide +kernel
theorem d_T_stored_77 : decode b_T_stored 77 = .ok (.iconst 4, 1) := by decide +kernel
theorem d_T_stored_78 : decode b_T_stored 78 = .ok (.irem, 1) := by decide +kernel
theorem d_T_stored_79 : decode b_T_stored 79 = .ok (.iadd, 1) := by decide +kernel
theorem d_T_stored_80 : decode b_T_stored 80 = .ok (.iload_n 3, 1) := by decide +kernel
theorem d_T_stored_81 : decode b_T_stored 81 = .ok (.iastore, 1) := by decide +kernel
theorem d_T_stored_82 : decode b_T_stored 82 = .ok (.return_, 1) := by decide +kernel
theorem d_T_load_0 : decode b_T_load 0 = .ok (.aload_n 0, 1) := by decide +kernel
theorem d_T_load_1 : decode b_T_load 1 = .ok (.aload_n 0, 1) := by decide +kernel
theorem d_T_load_2 : decode b_T_load 2 = .ok (.iload_n 1, 1) := by decide +kernel
theorem d_T_load_3 : decode b_T_load 3 = .ok (.invokevirtual 68, 3) := by decide +kernel
theorem d_T_load_6 : decode b_T_load 6 = .ok (.ifCond .ne 7, 3) := by decide +kernel
theorem d_T_load_9 : decode b_T_load 9 = .ok (.iconst 1, 1) := by decide +kernel
theorem d_T_load_10 : decode b_T_load 10 = .ok (.goto 15, 3) := by decide +kernel
theorem d_T_load_13 : decode b_T_load 13 = .ok (.iload_n 2, 1) := by decide +kernel
theorem d_T_load_14 : decode b_T_load 14 = .ok (.invokestatic 87, 3) := by decide +kernel
theorem d_T_load_17 : decode b_T_load 17 = .ok (.ifCond .ne 7, 3) := by decide +kernel
theorem d_T_load_20 : decode b_T_load 20 = .ok (.iconst 2, 1) := by decide +kernel
theorem d_T_load_21 : decode b_T_load 21 = .ok (.goto 4, 3) := by decide +kernel
theorem d_T_load_24 : decode b_T_load 24 = .ok (.iconst 0, 1) := by decide +kernel
theorem d_T_load_25 : decode b_T_load 25 = .ok (.putfield 33, 3) := by decide +kernel
theorem d_T_load_28 : decode b_T_load 28 = .ok (.aload_n 0, 1) := by decide +kernel
theorem d_T_load_29 : decode b_T_load 29 = .ok (.getfield 33, 3) := by decide +kernel
theorem d_T_load_32 : decode b_T_load 32 = .ok (.ifCond .le 7, 3) := by decide +kernel
theorem d_T_load_35 : decode b_T_load 35 = .ok (.iconst 0, 1) := by decide +kernel
theorem d_T_load_36 : decode b_T_load 36 = .ok (.goto 9, 3) := by decide +kernel
theorem d_T_load_39 : decode b_T_load 39 = .ok (.aload_n 0, 1) := by decide +kernel
theorem d_T_load_40 : decode b_T_load 40 = .ok (.iload_n 1, 1) := by decide +kernel
theorem d_T_load_41 : decode b_T_load 41 = .ok (.iload_n 2, 1) := by decide +kernel
theorem d_T_load_42 : decode b_T_load 42 = .ok (.invokevirtual 90, 3) := by decide +kernel
theorem d_T_load_45 : decode b_T_load 45 = .ok (.ireturn, 1) := by decide +kernel
theorem d_T_store_0 : decode b_T_store 0 = .ok (.aload_n 0, 1) := by decide +kernel
theorem d_T_store_1 : decode b_T_store 1 = .ok (.aload_n 0, 1) := by decide +kernel
theorem d_T_store_2 : decode b_T_store 2 = .ok (.iload_n 1, 1) := by decide +kernel
theorem d_T_store_3 : decode b_T_store 3 = .ok (.invokevirtual 68, 3) := by decide +kernel
theorem d_T_store_6 : decode b_T_store 6 = .ok (.ifCond .ne 7, 3) := by decide +kernel
theorem d_T_store_9 : decode b_T_store 9 = .ok (.iconst 1, 1) := by decide +kernel
theorem d_T_store_10 : decode b_T_store 10 = .ok (.goto 15, 3) := by decide +kernel
theorem d_T_store_13 : decode b_T_store 13 = .ok (.iload_n 2, 1) := by decide +kernel
theorem d_T_store_14 : decode b_T_store 14 = .ok (.invokestatic 87, 3) := by decide +kernel
theorem d_T_store_17 : decode b_T_store 17 = .ok (.ifCond .ne 7, 3) := by decide +kernel
theorem d_T_store_20 : decode b_T_store 20 = .ok (.iconst 2, 1) := by decide +kernel
theorem d_T_store_21 : decode b_T_store 21 = .ok (.goto 4, 3) := by decide +kernel
theorem d_T_store_24 : decode b_T_store 24 = .ok (.iconst 0, 1) := by decide +kernel
theorem d_T_store_25 : decode b_T_store 25 = .ok (.putfield 33, 3) := by decide +kernel
theorem d_T_store_28 : decode b_T_store 28 = .ok (.aload_n 0, 1) := by decide +kernel
theorem d_T_store_29 : decode b_T_store 29 = .ok (.getfield 33, 3) := by decide +kernel
theorem d_T_store_32 : decode b_T_store 32 = .ok (.ifCond .le 4, 3) := by decide +kernel
theorem d_T_store_35 : decode b_T_store 35 = .ok (.return_, 1) := by decide +kernel
theorem d_T_store_36 : decode b_T_store 36 = .ok (.aload_n 0, 1) := by decide +kernel
theorem d_T_store_37 : decode b_T_store 37 = .ok (.iload_n 1, 1) := by decide +kernel
theorem d_T_store_38 : decode b_T_store 38 = .ok (.iload_n 2, 1) := by decide +kernel
theorem d_T_store_39 : decode b_T_store 39 = .ok (.invokevirtual 79, 3) := by decide +kernel
theorem d_T_store_42 : decode b_T_store 42 = .ok (.ifCond .eq 16, 3) := by decide +kernel
theorem d_T_store_45 : decode b_T_store 45 = .ok (.aload_n 0, 1) := by decide +kernel
theorem d_T_store_46 : decode b_T_store 46 = .ok (.invokevirtual 94, 3) := by decide +kernel
theorem d_T_store_49 : decode b_T_store 49 = .ok (.ifCond .ne 9, 3) := by decide +kernel
theorem d_T_store_52 : decode b_T_store 52 = .ok (.aload_n 0, 1) := by decide +kernel
theorem d_T_store_53 : decode b_T_store 53 = .ok (.iconst 3, 1) := by decide +kernel
theorem d_T_store_54 : decode b_T_store 54 = .ok (.putfield 33, 3) := by decide +kernel
theorem d_T_store_57 : decode b_T_store 57 = .ok (.return_, 1) := by decide +kernel
theorem d_T_store_58 : decode b_T_store 58 = .ok (.aload_n 0, 1) := by decide +kernel
theorem d_T_store_59 : decode b_T_store 59 = .ok (.iload_n 1, 1) := by decide +kernel
theorem d_T_store_60 : decode b_T_store 60 = .ok (.iload_n 2, 1) := by decide +kernel
theorem d_T_store_61 : decode b_T_store 61 = .ok (.iload_n 3, 1) := by decide +kernel
theorem d_T_store_62 : decode b_T_store 62 = .ok (.invokevirtual 98, 3) := by decide +kernel
theorem d_T_store_65 : decode b_T_store 65 = .ok (.return_, 1) := by decide +kernel
theorem d_T_copy_0 : decode b_T_copy 0 = .ok (.iload 4, 2) := by decide +kernel
theorem d_T_copy_2 : decode b_T_copy 2 = .ok (.ifCond .lt 47, 3) := by decide +kernel
theorem d_T_copy_5 : decode b_T_copy 5 = .ok (.iload 4, 2) := by decide +kernel
theorem d_T_copy_7 : decode b_T_copy 7 = .ok (.bipush 24, 2) := by decide +kernel
theorem d_T_copy_9 : decode b_T_copy 9 = .ok (.if_icmp .gt 40, 3) := by decide +kernel
theorem d_T_copy_12 : decode b_T_copy 12 = .ok (.iload 4, 2) := by decide +kernel
theorem d_T_copy_14 : decode b_T_copy 14 = .ok (.ifCond .le 39, 3) := by decide +kernel
theorem d_T_copy_17 : decode b_T_copy 17 = .ok (.iload_n 2, 1) := by decide +kernel
theorem d_T_copy_18 : decode b_T_copy 18 = .ok (.invokestatic 87, 3) := by decide +kernel
theorem d_T_copy_21 : decode b_T_copy 21 = .ok (.ifCond .eq 28, 3) := by decide +kernel
theorem d_T_copy_24 : decode b_T_copy 24 = .ok (.iload_n 3, 1) := by decide +kernel
theorem d_T_copy_25 : decode b_T_copy 25 = .ok (.invokestatic 87, 3) := by decide +kernel
theorem d_T_copy_28 : decode b_T_copy 28 = .ok (.ifCond .eq 21, 3) := by decide +kernel
theorem d_T_copy_31 : decode b_T_copy 31 = .ok (.iload_n 2, 1) := by decide +kernel
theorem d_T_copy_32 : decode b_T_copy 32 = .ok (.iload 4, 2) := by decide +kernel
theorem d_T_copy_34 : decode b_T_copy 34 = .ok (.iadd, 1) := by decide +kernel
theorem d_T_copy_35 : decode b_T_copy 35 = .ok (.bipush 24, 2) := by decide +kernel
theorem d_T_copy_37 : decode b_T_copy 37 = .ok (.if_icmp .gt 12, 3) := by decide +kernel
theorem d_T_copy_40 : decode b_T_copy 40 = .ok (.iload_n 3, 1) := by decide +kernel
theorem d_T_copy_41 : decode b_T_copy 41 = .ok (.iload 4, 2) := by decide +kernel
theorem d_T_copy_43 : decode b_T_copy 43 = .ok (.iadd, 1) := by decide +kernel
theorem d_T_copy_44 : decode b_T_copy 44 = .ok (.bipush 24, 2) := by decide +kernel
theorem d_T_copy_46 : decode b_T_copy 46 = .ok (.if_icmp .le 7, 3) := by decide +kernel
theorem d_T_copy_49 : decode b_T_copy 49 = .ok (.iconst 1, 1) := by decide +kernel
theorem d_T_copy_50 : decode b_T_copy 50 = .ok (.goto 4, 3) := by decide +kernel
theorem d_T_copy_53 : decode b_T_copy 53 = .ok (.iconst 0, 1) := by decide +kernel
theorem d_T_copy_54 : decode b_T_copy 54 = .ok (.istore 5, 2) := by decide +kernel
theorem d_T_copy_56 : decode b_T_copy 56 = .ok (.aload_n 0, 1) := by decide +kernel
theorem d_T_copy_57 : decode b_T_copy 57 = .ok (.aload_n 0, 1) := by decide +kernel
theorem d_T_copy_58 : decode b_T_copy 58 = .ok (.iload_n 1, 1) := by decide +kernel
theorem d_T_copy_59 : decode b_T_copy 59 = .ok (.invokevirtual 68, 3) := by decide +kernel
theorem d_T_copy_62 : decode b_T_copy 62 = .ok (.ifCond .ne 7, 3) := by decide +kernel
theorem d_T_copy_65 : decode b_T_copy 65 = .ok (.iconst 1, 1) := by decide +kernel
theorem d_T_copy_66 : decode b_T_copy 66 = .ok (.goto 13, 3) := by decide +kernel
theorem d_T_copy_69 : decode b_T_copy 69 = .ok (.iload 5, 2) := by decide +kernel
theorem d_T_copy_71 : decode b_T_copy 71 = .ok (.ifCond .eq 7, 3) := by decide +kernel
theorem d_T_copy_74 : decode b_T_copy 74 = .ok (.iconst 2, 1) := by decide +kernel
theorem d_T_copy_75 : decode b_T_copy 75 = .ok (.goto 4, 3) := by decide +kernel
theorem d_T_copy_78 : decode b_T_copy 78 = .ok (.iconst 0, 1) := by decide +kernel
theorem d_T_copy_79 : decode b_T_copy 79 = .ok (.putfield 33, 3) := by decide +kernel
theorem d_T_copy_82 : decode b_T_copy 82 = .ok (.aload_n 0, 1) := by decide +kernel
theorem d_T_copy_83 : decode b_T_copy 83 = .ok (.getfield 33, 3) := by decide +kernel
theorem d_T_copy_86 : decode b_T_copy 86 = .ok (.ifCond .le 4, 3) := by decide +kernel
theorem d_T_copy_89 : decode b_T_copy 89 = .ok (.return_, 1) := by decide +kernel
theorem d_T_copy_90 : decode b_T_copy 90 = .ok (.aload_n 0, 1) := by decide +kernel
theorem d_T_copy_91 : decode b_T_copy 91 = .ok (.iconst 0, 1) := by decide +kernel
theorem d_T_copy_92 : decode b_T_copy 92 = .ok (.putfield 102, 3) := by decide +kernel
theorem d_T_copy_95 : decode b_T_copy 95 = .ok (.aload_n 0, 1) := by decide +kernel
theorem d_T_copy_96 : decode b_T_copy 96 = .ok (.getfield 102, 3) := by decide +kernel
theorem d_T_copy_99 : decode b_T_copy 99 = .ok (.iload 4, 2) := by decide +kernel
theorem d_T_copy_101 : decode b_T_copy 101 = .ok (.if_icmp .ge 78, 3) := by decide +kernel
theorem d_T_copy_104 : decode b_T_copy 104 = .ok (.aload_n 0, 1) := by decide +kernel
theorem d_T_copy_105 : decode b_T_copy 105 = .ok (.getfield 33, 3) := by decide +kernel
theorem d_T_copy_108 : decode b_T_copy 108 = .ok (.ifCond .ne 71, 3) := by decide +kernel
theorem d_T_copy_111 : decode b_T_copy 111 = .ok (.aload_n 0, 1) := by decide +kernel
theorem d_T_copy_112 : decode b_T_copy 112 = .ok (.iload_n 1, 1) := by decide +kernel
theorem d_T_copy_113 : decode b_T_copy 113 = .ok (.iload_n 2, 1) := by decide +kernel
theorem d_T_copy_114 : decode b_T_copy 114 = .ok (.aload_n 0, 1) := by decide +kernel
theorem d_T_copy_115 : decode b_T_copy 115 = .ok (.getfield 102, 3) := by decide +kernel
theorem d_T_copy_118 : decode b_T_copy 118 = .ok (.iadd, 1) := by decide +kernel
theorem d_T_copy_119 : decode b_T_copy 119 = .ok (.invokevirtual 90, 3) := by decide +kernel
theorem d_T_copy_122 : decode b_T_copy 122 = .ok (.istore 6, 2) := by decide +kernel
theorem d_T_copy_124 : decode b_T_copy 124 = .ok (.aload_n 0, 1) := by decide +kernel
theorem d_T_copy_125 : decode b_T_copy 125 = .ok (.iload_n 1, 1) := by decide +kernel
theorem d_T_copy_126 : decode b_T_copy 126 = .ok (.iload_n 3, 1) := by decide +kernel
theorem d_T_copy_127 : decode b_T_copy 127 = .ok (.aload_n 0, 1) := by decide +kernel
theorem d_T_copy_128 : decode b_T_copy 128 = .ok (.getfield 102, 3) := by decide +kernel
theorem d_T_copy_131 : decode b_T_copy 131 = .ok (.iadd, 1) := by decide +kernel
theorem d_T_copy_132 : decode b_T_copy 132 = .ok (.invokevirtual 79, 3) := by decide +kernel
theorem d_T_copy_135 : decode b_T_copy 135 = .ok (.ifCond .eq 18, 3) := by decide +kernel
theorem d_T_copy_138 : decode b_T_copy 138 = .ok (.aload_n 0, 1) := by decide +kernel
theorem d_T_copy_139 : decode b_T_copy 139 = .ok (.invokevirtual 94, 3) := by decide +kernel
theorem d_T_copy_142 : decode b_T_copy 142 = .ok (.ifCond .ne 11, 3) := by decide +kernel
theorem d_T_copy_145 : decode b_T_copy 145 = .ok (.aload_n 0, 1) := by decide +kernel
theorem d_T_copy_146 : decode b_T_copy 146 = .ok (.iconst 3, 1) := by decide +kernel
theorem d_T_copy_147 : decode b_T_copy 147 = .ok (.putfield 33, 3) := by decide +kernel
theorem d_T_copy_150 : decode b_T_copy 150 = .ok (.goto 26, 3) := by decide +kernel
theorem d_T_copy_153 : decode b_T_copy 153 = .ok (.aload_n 0, 1) := by decide +kernel
theorem d_T_copy_154 : decode b_T_copy 154 = .ok (.iload_n 1, 1) := by decide +kernel
theorem d_T_copy_155 : decode b_T_copy 155 = .ok (.iload_n 3, 1) := by decide +kernel
theorem d_T_copy_156 : decode b_T_copy 156 = .ok (.aload_n 0, 1) := by decide +kernel
theorem d_T_copy_157 : decode b_T_copy 157 = .ok (.getfield 102, 3) := by decide +kernel
theorem d_T_copy_160 : decode b_T_copy 160 = .ok (.iadd, 1) := by decide +kernel
theorem d_T_copy_161 : decode b_T_copy 161 = .ok (.iload 6, 2) := by decide +kernel
theorem d_T_copy_163 : decode b_T_copy 163 = .ok (.invokevirtual 98, 3) := by decide +kernel
theorem d_T_copy_166 : decode b_T_copy 166 = .ok (.aload_n 0, 1) := by decide +kernel
theorem d_T_copy_167 : decode b_T_copy 167 = .ok (.dup, 1) := by decide +kernel
theorem d_T_copy_168 : decode b_T_copy 168 = .ok (.getfield 102, 3) := by decide +kernel
theorem d_T_copy_171 : decode b_T_copy 171 = .ok (.iconst 1, 1) := by decide +kernel
theorem d_T_copy_172 : decode b_T_copy 172 = .ok (.iadd, 1) := by decide +kernel
theorem d_T_copy_173 : decode b_T_copy 173 = .ok (.putfield 102, 3) := by decide +kernel
theorem d_T_copy_176 : decode b_T_copy 176 = .ok (.goto (-81), 3) := by decide +kernel
theorem d_T_copy_179 : decode b_T_copy 179 = .ok (.return_, 1) := by decide +kernel
theorem d_T_sheetOf_0 : decode b_T_sheetOf 0 = .ok (.aload_n 0, 1) := by decide +kernel
theorem d_T_sheetOf_1 : decode b_T_sheetOf 1 = .ok (.iload_n 1, 1) := by decide +kernel
theorem d_T_sheetOf_2 : decode b_T_sheetOf 2 = .ok (.invokevirtual 68, 3) := by decide +kernel
theorem d_T_sheetOf_5 : decode b_T_sheetOf 5 = .ok (.ifCond .eq 27, 3) := by decide +kernel
theorem d_T_sheetOf_8 : decode b_T_sheetOf 8 = .ok (.iload_n 2, 1) := by decide +kernel
theorem d_T_sheetOf_9 : decode b_T_sheetOf 9 = .ok (.ifCond .lt 23, 3) := by decide +kernel
theorem d_T_sheetOf_12 : decode b_T_sheetOf 12 = .ok (.iload_n 2, 1) := by decide +kernel
theorem d_T_sheetOf_13 : decode b_T_sheetOf 13 = .ok (.bipush 6, 2) := by decide +kernel
theorem d_T_sheetOf_15 : decode b_T_sheetOf 15 = .ok (.if_icmp .ge 17, 3) := by decide +kernel
theorem d_T_sheetOf_18 : decode b_T_sheetOf 18 = .ok (.aload_n 0, 1) := by decide +kernel
theorem d_T_sheetOf_19 : decode b_T_sheetOf 19 = .ok (.getfield 23, 3) := by decide +kernel
theorem d_T_sheetOf_22 : decode b_T_sheetOf 22 = .ok (.bipush 6, 2) := by decide +kernel
theorem d_T_sheetOf_24 : decode b_T_sheetOf 24 = .ok (.iload_n 1, 1) := by decide +kernel
theorem d_T_sheetOf_25 : decode b_T_sheetOf 25 = .ok (.imul, 1) := by decide +kernel
theorem d_T_sheetOf_26 : decode b_T_sheetOf 26 = .ok (.iload_n 2, 1) := by decide +kernel
theorem d_T_sheetOf_27 : decode b_T_sheetOf 27 = .ok (.iadd, 1) := by decide +kernel
theorem d_T_sheetOf_28 : decode b_T_sheetOf 28 = .ok (.iaload, 1) := by decide +kernel
theorem d_T_sheetOf_29 : decode b_T_sheetOf 29 = .ok (.goto 4, 3) := by decide +kernel
theorem d_T_sheetOf_32 : decode b_T_sheetOf 32 = .ok (.iconst (-1), 1) := by decide +kernel
theorem d_T_sheetOf_33 : decode b_T_sheetOf 33 = .ok (.ireturn, 1) := by decide +kernel
theorem d_T_copied_0 : decode b_T_copied 0 = .ok (.aload_n 0, 1) := by decide +kernel
theorem d_T_copied_1 : decode b_T_copied 1 = .ok (.iconst 0, 1) := by decide +kernel
theorem d_T_copied_2 : decode b_T_copied 2 = .ok (.putfield 33, 3) := by decide +kernel
theorem d_T_copied_5 : decode b_T_copied 5 = .ok (.aload_n 0, 1) := by decide +kernel
theorem d_T_copied_6 : decode b_T_copied 6 = .ok (.getfield 102, 3) := by decide +kernel
theorem d_T_copied_9 : decode b_T_copied 9 = .ok (.ireturn, 1) := by decide +kernel
theorem d_T_where_0 : decode b_T_where 0 = .ok (.aload_n 0, 1) := by decide +kernel
theorem d_T_where_1 : decode b_T_where 1 = .ok (.iconst 0, 1) := by decide +kernel
theorem d_T_where_2 : decode b_T_where 2 = .ok (.putfield 33, 3) := by decide +kernel
theorem d_T_where_5 : decode b_T_where 5 = .ok (.aload_n 0, 1) := by decide +kernel
theorem d_T_where_6 : decode b_T_where 6 = .ok (.iload_n 1, 1) := by decide +kernel
theorem d_T_where_7 : decode b_T_where 7 = .ok (.iload_n 2, 1) := by decide +kernel
theorem d_T_where_8 : decode b_T_where 8 = .ok (.invokevirtual 105, 3) := by decide +kernel
theorem d_T_where_11 : decode b_T_where 11 = .ok (.istore_n 3, 1) := by decide +kernel
theorem d_T_where_12 : decode b_T_where 12 = .ok (.iload_n 3, 1) := by decide +kernel
theorem d_T_where_13 : decode b_T_where 13 = .ok (.ifCond .ge 7, 3) := by decide +kernel
theorem d_T_where_16 : decode b_T_where 16 = .ok (.iconst (-1), 1) := by decide +kernel
theorem d_T_where_17 : decode b_T_where 17 = .ok (.goto 9, 3) := by decide +kernel
theorem d_T_where_20 : decode b_T_where 20 = .ok (.aload_n 0, 1) := by decide +kernel
theorem d_T_where_21 : decode b_T_where 21 = .ok (.getfield 13, 3) := by decide +kernel
theorem d_T_where_24 : decode b_T_where 24 = .ok (.iload_n 3, 1) := by decide +kernel
theorem d_T_where_25 : decode b_T_where 25 = .ok (.iaload, 1) := by decide +kernel
theorem d_T_where_26 : decode b_T_where 26 = .ok (.ireturn, 1) := by decide +kernel
theorem d_T_sharers_0 : decode b_T_sharers 0 = .ok (.aload_n 0, 1) := by decide +kernel
theorem d_T_sharers_1 : decode b_T_sharers 1 = .ok (.iconst 0, 1) := by decide +kernel
theorem d_T_sharers_2 : decode b_T_sharers 2 = .ok (.putfield 33, 3) := by decide +kernel
theorem d_T_sharers_5 : decode b_T_sharers 5 = .ok (.aload_n 0, 1) := by decide +kernel
theorem d_T_sharers_6 : decode b_T_sharers 6 = .ok (.iload_n 1, 1) := by decide +kernel
theorem d_T_sharers_7 : decode b_T_sharers 7 = .ok (.iload_n 2, 1) := by decide +kernel
theorem d_T_sharers_8 : decode b_T_sharers 8 = .ok (.invokevirtual 105, 3) := by decide +kernel
theorem d_T_sharers_11 : decode b_T_sharers 11 = .ok (.istore_n 3, 1) := by decide +kernel
theorem d_T_sharers_12 : decode b_T_sharers 12 = .ok (.iload_n 3, 1) := by decide +kernel
theorem d_T_sharers_13 : decode b_T_sharers 13 = .ok (.ifCond .ge 7, 3) := by decide +kernel
theorem d_T_sharers_16 : decode b_T_sharers 16 = .ok (.iconst 0, 1) := by decide +kernel
theorem d_T_sharers_17 : decode b_T_sharers 17 = .ok (.goto 8, 3) := by decide +kernel
theorem d_T_sharers_20 : decode b_T_sharers 20 = .ok (.aload_n 0, 1) := by decide +kernel
theorem d_T_sharers_21 : decode b_T_sharers 21 = .ok (.iload_n 3, 1) := by decide +kernel
theorem d_T_sharers_22 : decode b_T_sharers 22 = .ok (.invokevirtual 62, 3) := by decide +kernel
theorem d_T_sharers_25 : decode b_T_sharers 25 = .ok (.ireturn, 1) := by decide +kernel
theorem d_T_isThere_0 : decode b_T_isThere 0 = .ok (.aload_n 0, 1) := by decide +kernel
theorem d_T_isThere_1 : decode b_T_isThere 1 = .ok (.iconst 0, 1) := by decide +kernel
theorem d_T_isThere_2 : decode b_T_isThere 2 = .ok (.putfield 33, 3) := by decide +kernel
theorem d_T_isThere_5 : decode b_T_isThere 5 = .ok (.aload_n 0, 1) := by decide +kernel
theorem d_T_isThere_6 : decode b_T_isThere 6 = .ok (.iload_n 1, 1) := by decide +kernel
theorem d_T_isThere_7 : decode b_T_isThere 7 = .ok (.invokevirtual 68, 3) := by decide +kernel
theorem d_T_isThere_10 : decode b_T_isThere 10 = .ok (.ireturn, 1) := by decide +kernel
theorem d_T_marked_0 : decode b_T_marked 0 = .ok (.aload_n 0, 1) := by decide +kernel
theorem d_T_marked_1 : decode b_T_marked 1 = .ok (.iconst 0, 1) := by decide +kernel
theorem d_T_marked_2 : decode b_T_marked 2 = .ok (.putfield 33, 3) := by decide +kernel
theorem d_T_marked_5 : decode b_T_marked 5 = .ok (.iload_n 1, 1) := by decide +kernel
theorem d_T_marked_6 : decode b_T_marked 6 = .ok (.ifCond .lt 24, 3) := by decide +kernel
theorem d_T_marked_9 : decode b_T_marked 9 = .ok (.iload_n 1, 1) := by decide +kernel
theorem d_T_marked_10 : decode b_T_marked 10 = .ok (.aload_n 0, 1) := by decide +kernel
theorem d_T_marked_11 : decode b_T_marked 11 = .ok (.getfield 26, 3) := by decide +kernel
theorem d_T_marked_14 : decode b_T_marked 14 = .ok (.if_icmp .ge 16, 3) := by decide +kernel
theorem d_T_marked_17 : decode b_T_marked 17 = .ok (.aload_n 0, 1) := by decide +kernel
theorem d_T_marked_18 : decode b_T_marked 18 = .ok (.getfield 7, 3) := by decide +kernel
theorem d_T_marked_21 : decode b_T_marked 21 = .ok (.iload_n 1, 1) := by decide +kernel
theorem d_T_marked_22 : decode b_T_marked 22 = .ok (.baload, 1) := by decide +kernel
theorem d_T_marked_23 : decode b_T_marked 23 = .ok (.ifCond .eq 7, 3) := by decide +kernel
theorem d_T_marked_26 : decode b_T_marked 26 = .ok (.iconst 1, 1) := by decide +kernel
theorem d_T_marked_27 : decode b_T_marked 27 = .ok (.goto 4, 3) := by decide +kernel
theorem d_T_marked_30 : decode b_T_marked 30 = .ok (.iconst 0, 1) := by decide +kernel
theorem d_T_marked_31 : decode b_T_marked 31 = .ok (.ireturn, 1) := by decide +kernel
theorem d_T_hand_0 : decode b_T_hand 0 = .ok (.aload_n 0, 1) := by decide +kernel
theorem d_T_hand_1 : decode b_T_hand 1 = .ok (.iconst 0, 1) := by decide +kernel
theorem d_T_hand_2 : decode b_T_hand 2 = .ok (.putfield 33, 3) := by decide +kernel
theorem d_T_hand_5 : decode b_T_hand 5 = .ok (.aload_n 0, 1) := by decide +kernel
theorem d_T_hand_6 : decode b_T_hand 6 = .ok (.getfield 40, 3) := by decide +kernel
theorem d_T_hand_9 : decode b_T_hand 9 = .ok (.ireturn, 1) := by decide +kernel
theorem d_T_freeFrames_0 : decode b_T_freeFrames 0 = .ok (.aload_n 0, 1) := by decide +kernel
theorem d_T_freeFrames_1 : decode b_T_freeFrames 1 = .ok (.iconst 0, 1) := by decide +kernel
theorem d_T_freeFrames_2 : decode b_T_freeFrames 2 = .ok (.putfield 33, 3) := by decide +kernel
theorem d_T_freeFrames_5 : decode b_T_freeFrames 5 = .ok (.iconst 0, 1) := by decide +kernel
theorem d_T_freeFrames_6 : decode b_T_freeFrames 6 = .ok (.istore_n 1, 1) := by decide +kernel
theorem d_T_freeFrames_7 : decode b_T_freeFrames 7 = .ok (.iconst 0, 1) := by decide +kernel
theorem d_T_freeFrames_8 : decode b_T_freeFrames 8 = .ok (.istore_n 2, 1) := by decide +kernel
theorem d_T_freeFrames_9 : decode b_T_freeFrames 9 = .ok (.iload_n 2, 1) := by decide +kernel
theorem d_T_freeFrames_10 : decode b_T_freeFrames 10 = .ok (.aload_n 0, 1) := by decide +kernel
theorem d_T_freeFrames_11 : decode b_T_freeFrames 11 = .ok (.getfield 26, 3) := by decide +kernel
theorem d_T_freeFrames_14 : decode b_T_freeFrames 14 = .ok (.if_icmp .ge 25, 3) := by decide +kernel
theorem d_T_freeFrames_17 : decode b_T_freeFrames 17 = .ok (.aload_n 0, 1) := by decide +kernel
theorem d_T_freeFrames_18 : decode b_T_freeFrames 18 = .ok (.iload_n 2, 1) := by decide +kernel
theorem d_T_freeFrames_19 : decode b_T_freeFrames 19 = .ok (.invokevirtual 36, 3) := by decide +kernel
theorem d_T_freeFrames_22 : decode b_T_freeFrames 22 = .ok (.ifCond .ge 9, 3) := by decide +kernel
theorem d_T_freeFrames_25 : decode b_T_freeFrames 25 = .ok (.iload_n 1, 1) := by decide +kernel
theorem d_T_freeFrames_26 : decode b_T_freeFrames 26 = .ok (.iconst 1, 1) := by decide +kernel
theorem d_T_freeFrames_27 : decode b_T_freeFrames 27 = .ok (.iadd, 1) := by decide +kernel
theorem d_T_freeFrames_28 : decode b_T_freeFrames 28 = .ok (.goto 4, 3) := by decide +kernel
theorem d_T_freeFrames_31 : decode b_T_freeFrames 31 = .ok (.iload_n 1, 1) := by decide +kernel
theorem d_T_freeFrames_32 : decode b_T_freeFrames 32 = .ok (.istore_n 1, 1) := by decide +kernel
theorem d_T_freeFrames_33 : decode b_T_freeFrames 33 = .ok (.iinc 2 1, 3) := by decide +kernel
theorem d_T_freeFrames_36 : decode b_T_freeFrames 36 = .ok (.goto (-27), 3) := by decide +kernel
theorem d_T_freeFrames_39 : decode b_T_freeFrames 39 = .ok (.iload_n 1, 1) := by decide +kernel
theorem d_T_freeFrames_40 : decode b_T_freeFrames 40 = .ok (.ireturn, 1) := by decide +kernel
theorem d_T_freeSlots_0 : decode b_T_freeSlots 0 = .ok (.aload_n 0, 1) := by decide +kernel
theorem d_T_freeSlots_1 : decode b_T_freeSlots 1 = .ok (.iconst 0, 1) := by decide +kernel
theorem d_T_freeSlots_2 : decode b_T_freeSlots 2 = .ok (.putfield 33, 3) := by decide +kernel
theorem d_T_freeSlots_5 : decode b_T_freeSlots 5 = .ok (.iconst 0, 1) := by decide +kernel
theorem d_T_freeSlots_6 : decode b_T_freeSlots 6 = .ok (.istore_n 1, 1) := by decide +kernel
theorem d_T_freeSlots_7 : decode b_T_freeSlots 7 = .ok (.iconst 0, 1) := by decide +kernel
theorem d_T_freeSlots_8 : decode b_T_freeSlots 8 = .ok (.istore_n 2, 1) := by decide +kernel
theorem d_T_freeSlots_9 : decode b_T_freeSlots 9 = .ok (.iload_n 2, 1) := by decide +kernel
theorem d_T_freeSlots_10 : decode b_T_freeSlots 10 = .ok (.aload_n 0, 1) := by decide +kernel
theorem d_T_freeSlots_11 : decode b_T_freeSlots 11 = .ok (.getfield 30, 3) := by decide +kernel
theorem d_T_freeSlots_14 : decode b_T_freeSlots 14 = .ok (.if_icmp .ge 28, 3) := by decide +kernel
theorem d_T_freeSlots_17 : decode b_T_freeSlots 17 = .ok (.aload_n 0, 1) := by decide +kernel
theorem d_T_freeSlots_18 : decode b_T_freeSlots 18 = .ok (.bipush 100, 2) := by decide +kernel
theorem d_T_freeSlots_20 : decode b_T_freeSlots 20 = .ok (.iload_n 2, 1) := by decide +kernel
theorem d_T_freeSlots_21 : decode b_T_freeSlots 21 = .ok (.iadd, 1) := by decide +kernel
theorem d_T_freeSlots_22 : decode b_T_freeSlots 22 = .ok (.invokevirtual 36, 3) := by decide +kernel
theorem d_T_freeSlots_25 : decode b_T_freeSlots 25 = .ok (.ifCond .ge 9, 3) := by decide +kernel
theorem d_T_freeSlots_28 : decode b_T_freeSlots 28 = .ok (.iload_n 1, 1) := by decide +kernel
theorem d_T_freeSlots_29 : decode b_T_freeSlots 29 = .ok (.iconst 1, 1) := by decide +kernel
theorem d_T_freeSlots_30 : decode b_T_freeSlots 30 = .ok (.iadd, 1) := by decide +kernel
theorem d_T_freeSlots_31 : decode b_T_freeSlots 31 = .ok (.goto 4, 3) := by decide +kernel
theorem d_T_freeSlots_34 : decode b_T_freeSlots 34 = .ok (.iload_n 1, 1) := by decide +kernel
theorem d_T_freeSlots_35 : decode b_T_freeSlots 35 = .ok (.istore_n 1, 1) := by decide +kernel
theorem d_T_freeSlots_36 : decode b_T_freeSlots 36 = .ok (.iinc 2 1, 3) := by decide +kernel
theorem d_T_freeSlots_39 : decode b_T_freeSlots 39 = .ok (.goto (-30), 3) := by decide +kernel
theorem d_T_freeSlots_42 : decode b_T_freeSlots 42 = .ok (.iload_n 1, 1) := by decide +kernel
theorem d_T_freeSlots_43 : decode b_T_freeSlots 43 = .ok (.ireturn, 1) := by decide +kernel
theorem d_T_faults_0 : decode b_T_faults 0 = .ok (.aload_n 0, 1) := by decide +kernel
theorem d_T_faults_1 : decode b_T_faults 1 = .ok (.iconst 0, 1) := by decide +kernel
theorem d_T_faults_2 : decode b_T_faults 2 = .ok (.putfield 33, 3) := by decide +kernel
theorem d_T_faults_5 : decode b_T_faults 5 = .ok (.aload_n 0, 1) := by decide +kernel
theorem d_T_faults_6 : decode b_T_faults 6 = .ok (.getfield 59, 3) := by decide +kernel
theorem d_T_faults_9 : decode b_T_faults 9 = .ok (.ireturn, 1) := by decide +kernel
theorem d_T_evicted_0 : decode b_T_evicted 0 = .ok (.aload_n 0, 1) := by decide +kernel
theorem d_T_evicted_1 : decode b_T_evicted 1 = .ok (.iconst 0, 1) := by decide +kernel
theorem d_T_evicted_2 : decode b_T_evicted 2 = .ok (.putfield 33, 3) := by decide +kernel
theorem d_T_evicted_5 : decode b_T_evicted 5 = .ok (.aload_n 0, 1) := by decide +kernel
theorem d_T_evicted_6 : decode b_T_evicted 6 = .ok (.getfield 53, 3) := by decide +kernel
theorem d_T_evicted_9 : decode b_T_evicted 9 = .ok (.ireturn, 1) := by decide +kernel
