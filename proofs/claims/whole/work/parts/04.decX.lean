/-! what stands at each place of the code, by program -/
theorem d_X_init_0 : decode b_X_init 0 = .ok (.aload_n 0, 1) := by decide +kernel
theorem d_X_init_1 : decode b_X_init 1 = .ok (.invokespecial 3, 3) := by decide +kernel
theorem d_X_init_4 : decode b_X_init 4 = .ok (.aload_n 0, 1) := by decide +kernel
theorem d_X_init_5 : decode b_X_init 5 = .ok (.bipush 6, 2) := by decide +kernel
theorem d_X_init_7 : decode b_X_init 7 = .ok (.newarray .boolean, 2) := by decide +kernel
theorem d_X_init_9 : decode b_X_init 9 = .ok (.putfield 9, 3) := by decide +kernel
theorem d_X_init_12 : decode b_X_init 12 = .ok (.aload_n 0, 1) := by decide +kernel
theorem d_X_init_13 : decode b_X_init 13 = .ok (.bipush 6, 2) := by decide +kernel
theorem d_X_init_15 : decode b_X_init 15 = .ok (.bipush 6, 2) := by decide +kernel
theorem d_X_init_17 : decode b_X_init 17 = .ok (.multianewarray 13 2, 4) := by decide +kernel
theorem d_X_init_21 : decode b_X_init 21 = .ok (.putfield 15, 3) := by decide +kernel
theorem d_X_init_24 : decode b_X_init 24 = .ok (.aload_n 0, 1) := by decide +kernel
theorem d_X_init_25 : decode b_X_init 25 = .ok (.new 18, 3) := by decide +kernel
theorem d_X_init_28 : decode b_X_init 28 = .ok (.dup, 1) := by decide +kernel
theorem d_X_init_29 : decode b_X_init 29 = .ok (.iload_n 1, 1) := by decide +kernel
theorem d_X_init_30 : decode b_X_init 30 = .ok (.iconst 2, 1) := by decide +kernel
theorem d_X_init_31 : decode b_X_init 31 = .ok (.invokestatic 20, 3) := by decide +kernel
theorem d_X_init_34 : decode b_X_init 34 = .ok (.bipush 8, 2) := by decide +kernel
theorem d_X_init_36 : decode b_X_init 36 = .ok (.invokestatic 26, 3) := by decide +kernel
theorem d_X_init_39 : decode b_X_init 39 = .ok (.iload_n 2, 1) := by decide +kernel
theorem d_X_init_40 : decode b_X_init 40 = .ok (.iconst 0, 1) := by decide +kernel
theorem d_X_init_41 : decode b_X_init 41 = .ok (.invokestatic 20, 3) := by decide +kernel
theorem d_X_init_44 : decode b_X_init 44 = .ok (.bipush 10, 2) := by decide +kernel
theorem d_X_init_46 : decode b_X_init 46 = .ok (.invokestatic 26, 3) := by decide +kernel
theorem d_X_init_49 : decode b_X_init 49 = .ok (.invokespecial 29, 3) := by decide +kernel
theorem d_X_init_52 : decode b_X_init 52 = .ok (.putfield 32, 3) := by decide +kernel
theorem d_X_init_55 : decode b_X_init 55 = .ok (.iconst 0, 1) := by decide +kernel
theorem d_X_init_56 : decode b_X_init 56 = .ok (.istore_n 3, 1) := by decide +kernel
theorem d_X_init_57 : decode b_X_init 57 = .ok (.iload_n 3, 1) := by decide +kernel
theorem d_X_init_58 : decode b_X_init 58 = .ok (.bipush 6, 2) := by decide +kernel
theorem d_X_init_60 : decode b_X_init 60 = .ok (.if_icmp .ge 19, 3) := by decide +kernel
theorem d_X_init_63 : decode b_X_init 63 = .ok (.aload_n 0, 1) := by decide +kernel
theorem d_X_init_64 : decode b_X_init 64 = .ok (.getfield 15, 3) := by decide +kernel
theorem d_X_init_67 : decode b_X_init 67 = .ok (.iload_n 3, 1) := by decide +kernel
theorem d_X_init_68 : decode b_X_init 68 = .ok (.aaload, 1) := by decide +kernel
theorem d_X_init_69 : decode b_X_init 69 = .ok (.iconst (-1), 1) := by decide +kernel
theorem d_X_init_70 : decode b_X_init 70 = .ok (.invokestatic 36, 3) := by decide +kernel
theorem d_X_init_73 : decode b_X_init 73 = .ok (.iinc 3 1, 3) := by decide +kernel
theorem d_X_init_76 : decode b_X_init 76 = .ok (.goto (-19), 3) := by decide +kernel
theorem d_X_init_79 : decode b_X_init 79 = .ok (.return_, 1) := by decide +kernel
theorem d_X_spawn_0 : decode b_X_spawn 0 = .ok (.aload_n 0, 1) := by decide +kernel
theorem d_X_spawn_1 : decode b_X_spawn 1 = .ok (.invokevirtual 42, 3) := by decide +kernel
theorem d_X_spawn_4 : decode b_X_spawn 4 = .ok (.istore_n 1, 1) := by decide +kernel
theorem d_X_spawn_5 : decode b_X_spawn 5 = .ok (.iload_n 1, 1) := by decide +kernel
theorem d_X_spawn_6 : decode b_X_spawn 6 = .ok (.iconst (-1), 1) := by decide +kernel
theorem d_X_spawn_7 : decode b_X_spawn 7 = .ok (.if_icmp .ne 13, 3) := by decide +kernel
theorem d_X_spawn_10 : decode b_X_spawn 10 = .ok (.new 46, 3) := by decide +kernel
theorem d_X_spawn_13 : decode b_X_spawn 13 = .ok (.dup, 1) := by decide +kernel
theorem d_X_spawn_14 : decode b_X_spawn 14 = .ok (.ldc 48, 2) := by decide +kernel
theorem d_X_spawn_16 : decode b_X_spawn 16 = .ok (.invokespecial 50, 3) := by decide +kernel
theorem d_X_spawn_19 : decode b_X_spawn 19 = .ok (.athrow, 1) := by decide +kernel
theorem d_X_spawn_20 : decode b_X_spawn 20 = .ok (.aload_n 0, 1) := by decide +kernel
theorem d_X_spawn_21 : decode b_X_spawn 21 = .ok (.getfield 9, 3) := by decide +kernel
theorem d_X_spawn_24 : decode b_X_spawn 24 = .ok (.iload_n 1, 1) := by decide +kernel
theorem d_X_spawn_25 : decode b_X_spawn 25 = .ok (.iconst 1, 1) := by decide +kernel
theorem d_X_spawn_26 : decode b_X_spawn 26 = .ok (.bastore, 1) := by decide +kernel
theorem d_X_spawn_27 : decode b_X_spawn 27 = .ok (.iload_n 1, 1) := by decide +kernel
theorem d_X_spawn_28 : decode b_X_spawn 28 = .ok (.ireturn, 1) := by decide +kernel
theorem d_X_fork_0 : decode b_X_fork 0 = .ok (.aload_n 0, 1) := by decide +kernel
theorem d_X_fork_1 : decode b_X_fork 1 = .ok (.iload_n 1, 1) := by decide +kernel
theorem d_X_fork_2 : decode b_X_fork 2 = .ok (.invokevirtual 53, 3) := by decide +kernel
theorem d_X_fork_5 : decode b_X_fork 5 = .ok (.aload_n 0, 1) := by decide +kernel
theorem d_X_fork_6 : decode b_X_fork 6 = .ok (.invokevirtual 42, 3) := by decide +kernel
theorem d_X_fork_9 : decode b_X_fork 9 = .ok (.istore_n 2, 1) := by decide +kernel
theorem d_X_fork_10 : decode b_X_fork 10 = .ok (.iload_n 2, 1) := by decide +kernel
theorem d_X_fork_11 : decode b_X_fork 11 = .ok (.iconst (-1), 1) := by decide +kernel
theorem d_X_fork_12 : decode b_X_fork 12 = .ok (.if_icmp .ne 13, 3) := by decide +kernel
theorem d_X_fork_15 : decode b_X_fork 15 = .ok (.new 46, 3) := by decide +kernel
theorem d_X_fork_18 : decode b_X_fork 18 = .ok (.dup, 1) := by decide +kernel
theorem d_X_fork_19 : decode b_X_fork 19 = .ok (.ldc 48, 2) := by decide +kernel
theorem d_X_fork_21 : decode b_X_fork 21 = .ok (.invokespecial 50, 3) := by decide +kernel
theorem d_X_fork_24 : decode b_X_fork 24 = .ok (.athrow, 1) := by decide +kernel
theorem d_X_fork_25 : decode b_X_fork 25 = .ok (.aload_n 0, 1) := by decide +kernel
theorem d_X_fork_26 : decode b_X_fork 26 = .ok (.getfield 9, 3) := by decide +kernel
theorem d_X_fork_29 : decode b_X_fork 29 = .ok (.iload_n 2, 1) := by decide +kernel
theorem d_X_fork_30 : decode b_X_fork 30 = .ok (.iconst 1, 1) := by decide +kernel
theorem d_X_fork_31 : decode b_X_fork 31 = .ok (.bastore, 1) := by decide +kernel
theorem d_X_fork_32 : decode b_X_fork 32 = .ok (.iconst 0, 1) := by decide +kernel
theorem d_X_fork_33 : decode b_X_fork 33 = .ok (.istore_n 3, 1) := by decide +kernel
theorem d_X_fork_34 : decode b_X_fork 34 = .ok (.iload_n 3, 1) := by decide +kernel
theorem d_X_fork_35 : decode b_X_fork 35 = .ok (.bipush 6, 2) := by decide +kernel
theorem d_X_fork_37 : decode b_X_fork 37 = .ok (.if_icmp .ge 44, 3) := by decide +kernel
theorem d_X_fork_40 : decode b_X_fork 40 = .ok (.aload_n 0, 1) := by decide +kernel
theorem d_X_fork_41 : decode b_X_fork 41 = .ok (.getfield 15, 3) := by decide +kernel
theorem d_X_fork_44 : decode b_X_fork 44 = .ok (.iload_n 1, 1) := by decide +kernel
theorem d_X_fork_45 : decode b_X_fork 45 = .ok (.aaload, 1) := by decide +kernel
theorem d_X_fork_46 : decode b_X_fork 46 = .ok (.iload_n 3, 1) := by decide +kernel
theorem d_X_fork_47 : decode b_X_fork 47 = .ok (.iaload, 1) := by decide +kernel
theorem d_X_fork_48 : decode b_X_fork 48 = .ok (.istore 4, 2) := by decide +kernel
theorem d_X_fork_50 : decode b_X_fork 50 = .ok (.aload_n 0, 1) := by decide +kernel
theorem d_X_fork_51 : decode b_X_fork 51 = .ok (.getfield 15, 3) := by decide +kernel
theorem d_X_fork_54 : decode b_X_fork 54 = .ok (.iload_n 2, 1) := by decide +kernel
theorem d_X_fork_55 : decode b_X_fork 55 = .ok (.aaload, 1) := by decide +kernel
theorem d_X_fork_56 : decode b_X_fork 56 = .ok (.iload_n 3, 1) := by decide +kernel
theorem d_X_fork_57 : decode b_X_fork 57 = .ok (.iload 4, 2) := by decide +kernel
theorem d_X_fork_59 : decode b_X_fork 59 = .ok (.iastore, 1) := by decide +kernel
theorem d_X_fork_60 : decode b_X_fork 60 = .ok (.iload 4, 2) := by decide +kernel
theorem d_X_fork_62 : decode b_X_fork 62 = .ok (.iconst (-1), 1) := by decide +kernel
theorem d_X_fork_63 : decode b_X_fork 63 = .ok (.if_icmp .eq 12, 3) := by decide +kernel
theorem d_X_fork_66 : decode b_X_fork 66 = .ok (.aload_n 0, 1) := by decide +kernel
theorem d_X_fork_67 : decode b_X_fork 67 = .ok (.getfield 32, 3) := by decide +kernel
theorem d_X_fork_70 : decode b_X_fork 70 = .ok (.iload 4, 2) := by decide +kernel
theorem d_X_fork_72 : decode b_X_fork 72 = .ok (.invokevirtual 57, 3) := by decide +kernel
theorem d_X_fork_75 : decode b_X_fork 75 = .ok (.iinc 3 1, 3) := by decide +kernel
theorem d_X_fork_78 : decode b_X_fork 78 = .ok (.goto (-44), 3) := by decide +kernel
theorem d_X_fork_81 : decode b_X_fork 81 = .ok (.iload_n 2, 1) := by decide +kernel
theorem d_X_fork_82 : decode b_X_fork 82 = .ok (.ireturn, 1) := by decide +kernel
theorem d_X_exit_0 : decode b_X_exit 0 = .ok (.aload_n 0, 1) := by decide +kernel
theorem d_X_exit_1 : decode b_X_exit 1 = .ok (.iload_n 1, 1) := by decide +kernel
theorem d_X_exit_2 : decode b_X_exit 2 = .ok (.invokevirtual 53, 3) := by decide +kernel
theorem d_X_exit_5 : decode b_X_exit 5 = .ok (.iconst 0, 1) := by decide +kernel
theorem d_X_exit_6 : decode b_X_exit 6 = .ok (.istore_n 2, 1) := by decide +kernel
theorem d_X_exit_7 : decode b_X_exit 7 = .ok (.iconst 0, 1) := by decide +kernel
theorem d_X_exit_8 : decode b_X_exit 8 = .ok (.istore_n 3, 1) := by decide +kernel
theorem d_X_exit_9 : decode b_X_exit 9 = .ok (.iload_n 3, 1) := by decide +kernel
theorem d_X_exit_10 : decode b_X_exit 10 = .ok (.bipush 6, 2) := by decide +kernel
theorem d_X_exit_12 : decode b_X_exit 12 = .ok (.if_icmp .ge 21, 3) := by decide +kernel
theorem d_X_exit_15 : decode b_X_exit 15 = .ok (.aload_n 0, 1) := by decide +kernel
theorem d_X_exit_16 : decode b_X_exit 16 = .ok (.iload_n 1, 1) := by decide +kernel
theorem d_X_exit_17 : decode b_X_exit 17 = .ok (.iload_n 3, 1) := by decide +kernel
theorem d_X_exit_18 : decode b_X_exit 18 = .ok (.invokevirtual 60, 3) := by decide +kernel
theorem d_X_exit_21 : decode b_X_exit 21 = .ok (.ifCond .eq 6, 3) := by decide +kernel
theorem d_X_exit_24 : decode b_X_exit 24 = .ok (.iinc 2 1, 3) := by decide +kernel
theorem d_X_exit_27 : decode b_X_exit 27 = .ok (.iinc 3 1, 3) := by decide +kernel
theorem d_X_exit_30 : decode b_X_exit 30 = .ok (.goto (-21), 3) := by decide +kernel
theorem d_X_exit_33 : decode b_X_exit 33 = .ok (.aload_n 0, 1) := by decide +kernel
theorem d_X_exit_34 : decode b_X_exit 34 = .ok (.getfield 9, 3) := by decide +kernel
theorem d_X_exit_37 : decode b_X_exit 37 = .ok (.iload_n 1, 1) := by decide +kernel
theorem d_X_exit_38 : decode b_X_exit 38 = .ok (.iconst 0, 1) := by decide +kernel
theorem d_X_exit_39 : decode b_X_exit 39 = .ok (.bastore, 1) := by decide +kernel
theorem d_X_exit_40 : decode b_X_exit 40 = .ok (.iload_n 2, 1) := by decide +kernel
theorem d_X_exit_41 : decode b_X_exit 41 = .ok (.ireturn, 1) := by decide +kernel
theorem d_X_drop_0 : decode b_X_drop 0 = .ok (.aload_n 0, 1) := by decide +kernel
theorem d_X_drop_1 : decode b_X_drop 1 = .ok (.iload_n 1, 1) := by decide +kernel
theorem d_X_drop_2 : decode b_X_drop 2 = .ok (.invokevirtual 53, 3) := by decide +kernel
theorem d_X_drop_5 : decode b_X_drop 5 = .ok (.iload_n 2, 1) := by decide +kernel
theorem d_X_drop_6 : decode b_X_drop 6 = .ok (.ifCond .lt 9, 3) := by decide +kernel
theorem d_X_drop_9 : decode b_X_drop 9 = .ok (.iload_n 2, 1) := by decide +kernel
theorem d_X_drop_10 : decode b_X_drop 10 = .ok (.bipush 6, 2) := by decide +kernel
theorem d_X_drop_12 : decode b_X_drop 12 = .ok (.if_icmp .lt 13, 3) := by decide +kernel
theorem d_X_drop_15 : decode b_X_drop 15 = .ok (.new 64, 3) := by decide +kernel
theorem d_X_drop_18 : decode b_X_drop 18 = .ok (.dup, 1) := by decide +kernel
theorem d_X_drop_19 : decode b_X_drop 19 = .ok (.ldc 66, 2) := by decide +kernel
theorem d_X_drop_21 : decode b_X_drop 21 = .ok (.invokespecial 68, 3) := by decide +kernel
theorem d_X_drop_24 : decode b_X_drop 24 = .ok (.athrow, 1) := by decide +kernel
theorem d_X_drop_25 : decode b_X_drop 25 = .ok (.aload_n 0, 1) := by decide +kernel
theorem d_X_drop_26 : decode b_X_drop 26 = .ok (.iload_n 1, 1) := by decide +kernel
theorem d_X_drop_27 : decode b_X_drop 27 = .ok (.iload_n 2, 1) := by decide +kernel
theorem d_X_drop_28 : decode b_X_drop 28 = .ok (.invokevirtual 60, 3) := by decide +kernel
theorem d_X_drop_31 : decode b_X_drop 31 = .ok (.ireturn, 1) := by decide +kernel
theorem d_X_load_0 : decode b_X_load 0 = .ok (.aload_n 0, 1) := by decide +kernel
theorem d_X_load_1 : decode b_X_load 1 = .ok (.iload_n 1, 1) := by decide +kernel
theorem d_X_load_2 : decode b_X_load 2 = .ok (.invokevirtual 53, 3) := by decide +kernel
theorem d_X_load_5 : decode b_X_load 5 = .ok (.iload_n 2, 1) := by decide +kernel
theorem d_X_load_6 : decode b_X_load 6 = .ok (.invokestatic 69, 3) := by decide +kernel
theorem d_X_load_9 : decode b_X_load 9 = .ok (.aload_n 0, 1) := by decide +kernel
theorem d_X_load_10 : decode b_X_load 10 = .ok (.iload_n 1, 1) := by decide +kernel
theorem d_X_load_11 : decode b_X_load 11 = .ok (.iload_n 2, 1) := by decide +kernel
theorem d_X_load_12 : decode b_X_load 12 = .ok (.invokevirtual 72, 3) := by decide +kernel
theorem d_X_load_15 : decode b_X_load 15 = .ok (.ireturn, 1) := by decide +kernel
theorem d_X_store_0 : decode b_X_store 0 = .ok (.aload_n 0, 1) := by decide +kernel
theorem d_X_store_1 : decode b_X_store 1 = .ok (.iload_n 1, 1) := by decide +kernel
theorem d_X_store_2 : decode b_X_store 2 = .ok (.invokevirtual 53, 3) := by decide +kernel
theorem d_X_store_5 : decode b_X_store 5 = .ok (.iload_n 2, 1) := by decide +kernel
theorem d_X_store_6 : decode b_X_store 6 = .ok (.invokestatic 69, 3) := by decide +kernel
theorem d_X_store_9 : decode b_X_store 9 = .ok (.aload_n 0, 1) := by decide +kernel
theorem d_X_store_10 : decode b_X_store 10 = .ok (.iload_n 1, 1) := by decide +kernel
theorem d_X_store_11 : decode b_X_store 11 = .ok (.iload_n 2, 1) := by decide +kernel
theorem d_X_store_12 : decode b_X_store 12 = .ok (.iload_n 3, 1) := by decide +kernel
theorem d_X_store_13 : decode b_X_store 13 = .ok (.invokevirtual 75, 3) := by decide +kernel
theorem d_X_store_16 : decode b_X_store 16 = .ok (.return_, 1) := by decide +kernel
theorem d_X_copy_0 : decode b_X_copy 0 = .ok (.aload_n 0, 1) := by decide +kernel
theorem d_X_copy_1 : decode b_X_copy 1 = .ok (.iload_n 1, 1) := by decide +kernel
theorem d_X_copy_2 : decode b_X_copy 2 = .ok (.invokevirtual 53, 3) := by decide +kernel
theorem d_X_copy_5 : decode b_X_copy 5 = .ok (.iload_n 2, 1) := by decide +kernel
theorem d_X_copy_6 : decode b_X_copy 6 = .ok (.iload 4, 2) := by decide +kernel
theorem d_X_copy_8 : decode b_X_copy 8 = .ok (.invokestatic 79, 3) := by decide +kernel
theorem d_X_copy_11 : decode b_X_copy 11 = .ok (.iload_n 3, 1) := by decide +kernel
theorem d_X_copy_12 : decode b_X_copy 12 = .ok (.iload 4, 2) := by decide +kernel
theorem d_X_copy_14 : decode b_X_copy 14 = .ok (.invokestatic 79, 3) := by decide +kernel
theorem d_X_copy_17 : decode b_X_copy 17 = .ok (.aload_n 0, 1) := by decide +kernel
theorem d_X_copy_18 : decode b_X_copy 18 = .ok (.iconst 0, 1) := by decide +kernel
theorem d_X_copy_19 : decode b_X_copy 19 = .ok (.putfield 82, 3) := by decide +kernel
theorem d_X_copy_22 : decode b_X_copy 22 = .ok (.iconst 0, 1) := by decide +kernel
theorem d_X_copy_23 : decode b_X_copy 23 = .ok (.istore 5, 2) := by decide +kernel
theorem d_X_copy_25 : decode b_X_copy 25 = .ok (.iload 5, 2) := by decide +kernel
theorem d_X_copy_27 : decode b_X_copy 27 = .ok (.iload 4, 2) := by decide +kernel
theorem d_X_copy_29 : decode b_X_copy 29 = .ok (.if_icmp .ge 37, 3) := by decide +kernel
theorem d_X_copy_32 : decode b_X_copy 32 = .ok (.aload_n 0, 1) := by decide +kernel
theorem d_X_copy_33 : decode b_X_copy 33 = .ok (.iload_n 1, 1) := by decide +kernel
theorem d_X_copy_34 : decode b_X_copy 34 = .ok (.iload_n 3, 1) := by decide +kernel
theorem d_X_copy_35 : decode b_X_copy 35 = .ok (.iload 5, 2) := by decide +kernel
theorem d_X_copy_37 : decode b_X_copy 37 = .ok (.iadd, 1) := by decide +kernel
theorem d_X_copy_38 : decode b_X_copy 38 = .ok (.aload_n 0, 1) := by decide +kernel
theorem d_X_copy_39 : decode b_X_copy 39 = .ok (.iload_n 1, 1) := by decide +kernel
theorem d_X_copy_40 : decode b_X_copy 40 = .ok (.iload_n 2, 1) := by decide +kernel
theorem d_X_copy_41 : decode b_X_copy 41 = .ok (.iload 5, 2) := by decide +kernel
theorem d_X_copy_43 : decode b_X_copy 43 = .ok (.iadd, 1) := by decide +kernel
theorem d_X_copy_44 : decode b_X_copy 44 = .ok (.invokevirtual 72, 3) := by decide +kernel
theorem d_X_copy_47 : decode b_X_copy 47 = .ok (.invokevirtual 75, 3) := by decide +kernel
theorem d_X_copy_50 : decode b_X_copy 50 = .ok (.aload_n 0, 1) := by decide +kernel
theorem d_X_copy_51 : decode b_X_copy 51 = .ok (.dup, 1) := by decide +kernel
theorem d_X_copy_52 : decode b_X_copy 52 = .ok (.getfield 82, 3) := by decide +kernel
theorem d_X_copy_55 : decode b_X_copy 55 = .ok (.iconst 1, 1) := by decide +kernel
theorem d_X_copy_56 : decode b_X_copy 56 = .ok (.iadd, 1) := by decide +kernel
theorem d_X_copy_57 : decode b_X_copy 57 = .ok (.putfield 82, 3) := by decide +kernel
theorem d_X_copy_60 : decode b_X_copy 60 = .ok (.iinc 5 1, 3) := by decide +kernel
theorem d_X_copy_63 : decode b_X_copy 63 = .ok (.goto (-38), 3) := by decide +kernel
theorem d_X_copy_66 : decode b_X_copy 66 = .ok (.return_, 1) := by decide +kernel
theorem d_X_copied_0 : decode b_X_copied 0 = .ok (.aload_n 0, 1) := by decide +kernel
theorem d_X_copied_1 : decode b_X_copied 1 = .ok (.getfield 82, 3) := by decide +kernel
theorem d_X_copied_4 : decode b_X_copied 4 = .ok (.ireturn, 1) := by decide +kernel
theorem d_X_where_0 : decode b_X_where 0 = .ok (.aload_n 0, 1) := by decide +kernel
theorem d_X_where_1 : decode b_X_where 1 = .ok (.iload_n 1, 1) := by decide +kernel
theorem d_X_where_2 : decode b_X_where 2 = .ok (.iload_n 2, 1) := by decide +kernel
theorem d_X_where_3 : decode b_X_where 3 = .ok (.invokevirtual 86, 3) := by decide +kernel
theorem d_X_where_6 : decode b_X_where 6 = .ok (.istore_n 3, 1) := by decide +kernel
theorem d_X_where_7 : decode b_X_where 7 = .ok (.iload_n 3, 1) := by decide +kernel
theorem d_X_where_8 : decode b_X_where 8 = .ok (.iconst (-1), 1) := by decide +kernel
theorem d_X_where_9 : decode b_X_where 9 = .ok (.if_icmp .ne 7, 3) := by decide +kernel
theorem d_X_where_12 : decode b_X_where 12 = .ok (.iconst (-1), 1) := by decide +kernel
theorem d_X_where_13 : decode b_X_where 13 = .ok (.goto 11, 3) := by decide +kernel
theorem d_X_where_16 : decode b_X_where 16 = .ok (.aload_n 0, 1) := by decide +kernel
theorem d_X_where_17 : decode b_X_where 17 = .ok (.getfield 32, 3) := by decide +kernel
theorem d_X_where_20 : decode b_X_where 20 = .ok (.iload_n 3, 1) := by decide +kernel
theorem d_X_where_21 : decode b_X_where 21 = .ok (.invokevirtual 89, 3) := by decide +kernel
theorem d_X_where_24 : decode b_X_where 24 = .ok (.ireturn, 1) := by decide +kernel
theorem d_X_sharers_0 : decode b_X_sharers 0 = .ok (.aload_n 0, 1) := by decide +kernel
theorem d_X_sharers_1 : decode b_X_sharers 1 = .ok (.iload_n 1, 1) := by decide +kernel
theorem d_X_sharers_2 : decode b_X_sharers 2 = .ok (.iload_n 2, 1) := by decide +kernel
theorem d_X_sharers_3 : decode b_X_sharers 3 = .ok (.invokevirtual 86, 3) := by decide +kernel
theorem d_X_sharers_6 : decode b_X_sharers 6 = .ok (.istore_n 3, 1) := by decide +kernel
theorem d_X_sharers_7 : decode b_X_sharers 7 = .ok (.iload_n 3, 1) := by decide +kernel
theorem d_X_sharers_8 : decode b_X_sharers 8 = .ok (.iconst (-1), 1) := by decide +kernel
theorem d_X_sharers_9 : decode b_X_sharers 9 = .ok (.if_icmp .ne 7, 3) := by decide +kernel
theorem d_X_sharers_12 : decode b_X_sharers 12 = .ok (.iconst 0, 1) := by decide +kernel
theorem d_X_sharers_13 : decode b_X_sharers 13 = .ok (.goto 11, 3) := by decide +kernel
theorem d_X_sharers_16 : decode b_X_sharers 16 = .ok (.aload_n 0, 1) := by decide +kernel
theorem d_X_sharers_17 : decode b_X_sharers 17 = .ok (.getfield 32, 3) := by decide +kernel
theorem d_X_sharers_20 : decode b_X_sharers 20 = .ok (.iload_n 3, 1) := by decide +kernel
theorem d_X_sharers_21 : decode b_X_sharers 21 = .ok (.invokevirtual 93, 3) := by decide +kernel
theorem d_X_sharers_24 : decode b_X_sharers 24 = .ok (.ireturn, 1) := by decide +kernel
theorem d_X_isThere_0 : decode b_X_isThere 0 = .ok (.iload_n 1, 1) := by decide +kernel
theorem d_X_isThere_1 : decode b_X_isThere 1 = .ok (.ifCond .lt 22, 3) := by decide +kernel
theorem d_X_isThere_4 : decode b_X_isThere 4 = .ok (.iload_n 1, 1) := by decide +kernel
theorem d_X_isThere_5 : decode b_X_isThere 5 = .ok (.bipush 6, 2) := by decide +kernel
theorem d_X_isThere_7 : decode b_X_isThere 7 = .ok (.if_icmp .ge 16, 3) := by decide +kernel
theorem d_X_isThere_10 : decode b_X_isThere 10 = .ok (.aload_n 0, 1) := by decide +kernel
theorem d_X_isThere_11 : decode b_X_isThere 11 = .ok (.getfield 9, 3) := by decide +kernel
theorem d_X_isThere_14 : decode b_X_isThere 14 = .ok (.iload_n 1, 1) := by decide +kernel
theorem d_X_isThere_15 : decode b_X_isThere 15 = .ok (.baload, 1) := by decide +kernel
theorem d_X_isThere_16 : decode b_X_isThere 16 = .ok (.ifCond .eq 7, 3) := by decide +kernel
theorem d_X_isThere_19 : decode b_X_isThere 19 = .ok (.iconst 1, 1) := by decide +kernel
theorem d_X_isThere_20 : decode b_X_isThere 20 = .ok (.goto 4, 3) := by decide +kernel
theorem d_X_isThere_23 : decode b_X_isThere 23 = .ok (.iconst 0, 1) := by decide +kernel
theorem d_X_isThere_24 : decode b_X_isThere 24 = .ok (.ireturn, 1) := by decide +kernel
theorem d_X_marked_0 : decode b_X_marked 0 = .ok (.aload_n 0, 1) := by decide +kernel
theorem d_X_marked_1 : decode b_X_marked 1 = .ok (.getfield 32, 3) := by decide +kernel
theorem d_X_marked_4 : decode b_X_marked 4 = .ok (.iload_n 1, 1) := by decide +kernel
theorem d_X_marked_5 : decode b_X_marked 5 = .ok (.invokevirtual 96, 3) := by decide +kernel
theorem d_X_marked_8 : decode b_X_marked 8 = .ok (.ireturn, 1) := by decide +kernel
theorem d_X_hand_0 : decode b_X_hand 0 = .ok (.aload_n 0, 1) := by decide +kernel
theorem d_X_hand_1 : decode b_X_hand 1 = .ok (.getfield 32, 3) := by decide +kernel
theorem d_X_hand_4 : decode b_X_hand 4 = .ok (.getfield 100, 3) := by decide +kernel
theorem d_X_hand_7 : decode b_X_hand 7 = .ok (.ireturn, 1) := by decide +kernel
theorem d_X_freeFrames_0 : decode b_X_freeFrames 0 = .ok (.aload_n 0, 1) := by decide +kernel
theorem d_X_freeFrames_1 : decode b_X_freeFrames 1 = .ok (.getfield 32, 3) := by decide +kernel
theorem d_X_freeFrames_4 : decode b_X_freeFrames 4 = .ok (.getfield 103, 3) := by decide +kernel
theorem d_X_freeFrames_7 : decode b_X_freeFrames 7 = .ok (.invokestatic 107, 3) := by decide +kernel
theorem d_X_freeFrames_10 : decode b_X_freeFrames 10 = .ok (.ireturn, 1) := by decide +kernel
theorem d_X_freeSlots_0 : decode b_X_freeSlots 0 = .ok (.aload_n 0, 1) := by decide +kernel
theorem d_X_freeSlots_1 : decode b_X_freeSlots 1 = .ok (.getfield 32, 3) := by decide +kernel
theorem d_X_freeSlots_4 : decode b_X_freeSlots 4 = .ok (.getfield 111, 3) := by decide +kernel
theorem d_X_freeSlots_7 : decode b_X_freeSlots 7 = .ok (.invokestatic 107, 3) := by decide +kernel
theorem d_X_freeSlots_10 : decode b_X_freeSlots 10 = .ok (.ireturn, 1) := by decide +kernel
theorem d_X_faults_0 : decode b_X_faults 0 = .ok (.aload_n 0, 1) := by decide +kernel
theorem d_X_faults_1 : decode b_X_faults 1 = .ok (.getfield 32, 3) := by decide +kernel
theorem d_X_faults_4 : decode b_X_faults 4 = .ok (.getfield 114, 3) := by decide +kernel
theorem d_X_faults_7 : decode b_X_faults 7 = .ok (.ireturn, 1) := by decide +kernel
theorem d_X_evicted_0 : decode b_X_evicted 0 = .ok (.aload_n 0, 1) := by decide +kernel
theorem d_X_evicted_1 : decode b_X_evicted 1 = .ok (.getfield 32, 3) := by decide +kernel
theorem d_X_evicted_4 : decode b_X_evicted 4 = .ok (.getfield 117, 3) := by decide +kernel
theorem d_X_evicted_7 : decode b_X_evicted 7 = .ok (.ireturn, 1) := by decide +kernel
theorem d_X_requireProcess_0 : decode b_X_requireProcess 0 = .ok (.aload_n 0, 1) := by decide +kernel
theorem d_X_requireProcess_1 : decode b_X_requireProcess 1 = .ok (.iload_n 1, 1) := by decide +kernel
theorem d_X_requireProcess_2 : decode b_X_requireProcess 2 = .ok (.invokevirtual 120, 3) := by decide +kernel
theorem d_X_requireProcess_5 : decode b_X_requireProcess 5 = .ok (.ifCond .ne 13, 3) := by decide +kernel
theorem d_X_requireProcess_8 : decode b_X_requireProcess 8 = .ok (.new 123, 3) := by decide +kernel
theorem d_X_requireProcess_11 : decode b_X_requireProcess 11 = .ok (.dup, 1) := by decide +kernel
theorem d_X_requireProcess_12 : decode b_X_requireProcess 12 = .ok (.ldc 125, 2) := by decide +kernel
theorem d_X_requireProcess_14 : decode b_X_requireProcess 14 = .ok (.invokespecial 127, 3) := by decide +kernel
theorem d_X_requireProcess_17 : decode b_X_requireProcess 17 = .ok (.athrow, 1) := by decide +kernel
theorem d_X_requireProcess_18 : decode b_X_requireProcess 18 = .ok (.return_, 1) := by decide +kernel
theorem d_X_requireAddress_0 : decode b_X_requireAddress 0 = .ok (.iload_n 0, 1) := by decide +kernel
theorem d_X_requireAddress_1 : decode b_X_requireAddress 1 = .ok (.ifCond .lt 9, 3) := by decide +kernel
theorem d_X_requireAddress_4 : decode b_X_requireAddress 4 = .ok (.iload_n 0, 1) := by decide +kernel
theorem d_X_requireAddress_5 : decode b_X_requireAddress 5 = .ok (.bipush 24, 2) := by decide +kernel
theorem d_X_requireAddress_7 : decode b_X_requireAddress 7 = .ok (.if_icmp .lt 13, 3) := by decide +kernel
theorem d_X_requireAddress_10 : decode b_X_requireAddress 10 = .ok (.new 64, 3) := by decide +kernel
theorem d_X_requireAddress_13 : decode b_X_requireAddress 13 = .ok (.dup, 1) := by decide +kernel
theorem d_X_requireAddress_14 : decode b_X_requireAddress 14 = .ok (.ldc 128, 2) := by decide +kernel
theorem d_X_requireAddress_16 : decode b_X_requireAddress 16 = .ok (.invokespecial 68, 3) := by decide +kernel
theorem d_X_requireAddress_19 : decode b_X_requireAddress 19 = .ok (.athrow, 1) := by decide +kernel
theorem d_X_requireAddress_20 : decode b_X_requireAddress 20 = .ok (.return_, 1) := by decide +kernel
theorem d_X_requireRange_0 : decode b_X_requireRange 0 = .ok (.iload_n 1, 1) := by decide +kernel
theorem d_X_requireRange_1 : decode b_X_requireRange 1 = .ok (.ifCond .ge 13, 3) := by decide +kernel
theorem d_X_requireRange_4 : decode b_X_requireRange 4 = .ok (.new 64, 3) := by decide +kernel
theorem d_X_requireRange_7 : decode b_X_requireRange 7 = .ok (.dup, 1) := by decide +kernel
theorem d_X_requireRange_8 : decode b_X_requireRange 8 = .ok (.ldc 130, 2) := by decide +kernel
theorem d_X_requireRange_10 : decode b_X_requireRange 10 = .ok (.invokespecial 68, 3) := by decide +kernel
theorem d_X_requireRange_13 : decode b_X_requireRange 13 = .ok (.athrow, 1) := by decide +kernel
theorem d_X_requireRange_14 : decode b_X_requireRange 14 = .ok (.iload_n 1, 1) := by decide +kernel
theorem d_X_requireRange_15 : decode b_X_requireRange 15 = .ok (.ifCond .le 31, 3) := by decide +kernel
theorem d_X_requireRange_18 : decode b_X_requireRange 18 = .ok (.iload_n 0, 1) := by decide +kernel
theorem d_X_requireRange_19 : decode b_X_requireRange 19 = .ok (.ifCond .lt 17, 3) := by decide +kernel
theorem d_X_requireRange_22 : decode b_X_requireRange 22 = .ok (.iload_n 0, 1) := by decide +kernel
theorem d_X_requireRange_23 : decode b_X_requireRange 23 = .ok (.bipush 24, 2) := by decide +kernel
theorem d_X_requireRange_25 : decode b_X_requireRange 25 = .ok (.if_icmp .ge 11, 3) := by decide +kernel
theorem d_X_requireRange_28 : decode b_X_requireRange 28 = .ok (.iload_n 1, 1) := by decide +kernel
theorem d_X_requireRange_29 : decode b_X_requireRange 29 = .ok (.bipush 24, 2) := by decide +kernel
theorem d_X_requireRange_31 : decode b_X_requireRange 31 = .ok (.iload_n 0, 1) := by decide +kernel
theorem d_X_requireRange_32 : decode b_X_requireRange 32 = .ok (.isub, 1) := by decide +kernel
theorem d_X_requireRange_33 : decode b_X_requireRange 33 = .ok (.if_icmp .le 13, 3) := by decide +kernel
theorem d_X_requireRange_36 : decode b_X_requireRange 36 = .ok (.new 64, 3) := by decide +kernel
theorem d_X_requireRange_39 : decode b_X_requireRange 39 = .ok (.dup, 1) := by decide +kernel
theorem d_X_requireRange_40 : decode b_X_requireRange 40 = .ok (.ldc 128, 2) := by decide +kernel
theorem d_X_requireRange_42 : decode b_X_requireRange 42 = .ok (.invokespecial 68, 3) := by decide +kernel
theorem d_X_requireRange_45 : decode b_X_requireRange 45 = .ok (.athrow, 1) := by decide +kernel
theorem d_X_requireRange_46 : decode b_X_requireRange 46 = .ok (.return_, 1) := by decide +kernel
theorem d_X_lowestNotThere_0 : decode b_X_lowestNotThere 0 = .ok (.iconst 0, 1) := by decide +kernel
theorem d_X_lowestNotThere_1 : decode b_X_lowestNotThere 1 = .ok (.istore_n 1, 1) := by decide +kernel
theorem d_X_lowestNotThere_2 : decode b_X_lowestNotThere 2 = .ok (.iload_n 1, 1) := by decide +kernel
theorem d_X_lowestNotThere_3 : decode b_X_lowestNotThere 3 = .ok (.bipush 6, 2) := by decide +kernel
theorem d_X_lowestNotThere_5 : decode b_X_lowestNotThere 5 = .ok (.if_icmp .ge 20, 3) := by decide +kernel
theorem d_X_lowestNotThere_8 : decode b_X_lowestNotThere 8 = .ok (.aload_n 0, 1) := by decide +kernel
theorem d_X_lowestNotThere_9 : decode b_X_lowestNotThere 9 = .ok (.getfield 9, 3) := by decide +kernel
theorem d_X_lowestNotThere_12 : decode b_X_lowestNotThere 12 = .ok (.iload_n 1, 1) := by decide +kernel
theorem d_X_lowestNotThere_13 : decode b_X_lowestNotThere 13 = .ok (.baload, 1) := by decide +kernel
theorem d_X_lowestNotThere_14 : decode b_X_lowestNotThere 14 = .ok (.ifCond .ne 5, 3) := by decide +kernel
theorem d_X_lowestNotThere_17 : decode b_X_lowestNotThere 17 = .ok (.iload_n 1, 1) := by decide +kernel
theorem d_X_lowestNotThere_18 : decode b_X_lowestNotThere 18 = .ok (.ireturn, 1) := by decide +kernel
theorem d_X_lowestNotThere_19 : decode b_X_lowestNotThere 19 = .ok (.iinc 1 1, 3) := by decide +kernel
theorem d_X_lowestNotThere_22 : decode b_X_lowestNotThere 22 = .ok (.goto (-20), 3) := by decide +kernel
theorem d_X_lowestNotThere_25 : decode b_X_lowestNotThere 25 = .ok (.iconst (-1), 1) := by decide +kernel
theorem d_X_lowestNotThere_26 : decode b_X_lowestNotThere 26 = .ok (.ireturn, 1) := by decide +kernel
theorem d_X_sheetOf_0 : decode b_X_sheetOf 0 = .ok (.aload_n 0, 1) := by decide +kernel
theorem d_X_sheetOf_1 : decode b_X_sheetOf 1 = .ok (.iload_n 1, 1) := by decide +kernel
theorem d_X_sheetOf_2 : decode b_X_sheetOf 2 = .ok (.invokevirtual 120, 3) := by decide +kernel
theorem d_X_sheetOf_5 : decode b_X_sheetOf 5 = .ok (.ifCond .eq 24, 3) := by decide +kernel
theorem d_X_sheetOf_8 : decode b_X_sheetOf 8 = .ok (.iload_n 2, 1) := by decide +kernel
theorem d_X_sheetOf_9 : decode b_X_sheetOf 9 = .ok (.ifCond .lt 20, 3) := by decide +kernel
theorem d_X_sheetOf_12 : decode b_X_sheetOf 12 = .ok (.iload_n 2, 1) := by decide +kernel
theorem d_X_sheetOf_13 : decode b_X_sheetOf 13 = .ok (.bipush 6, 2) := by decide +kernel
theorem d_X_sheetOf_15 : decode b_X_sheetOf 15 = .ok (.if_icmp .ge 14, 3) := by decide +kernel
theorem d_X_sheetOf_18 : decode b_X_sheetOf 18 = .ok (.aload_n 0, 1) := by decide +kernel
theorem d_X_sheetOf_19 : decode b_X_sheetOf 19 = .ok (.getfield 15, 3) := by decide +kernel
theorem d_X_sheetOf_22 : decode b_X_sheetOf 22 = .ok (.iload_n 1, 1) := by decide +kernel
theorem d_X_sheetOf_23 : decode b_X_sheetOf 23 = .ok (.aaload, 1) := by decide +kernel
theorem d_X_sheetOf_24 : decode b_X_sheetOf 24 = .ok (.iload_n 2, 1) := by decide +kernel
theorem d_X_sheetOf_25 : decode b_X_sheetOf 25 = .ok (.iaload, 1) := by decide +kernel
theorem d_X_sheetOf_26 : decode b_X_sheetOf 26 = .ok (.goto 4, 3) := by decide +kernel
theorem d_X_sheetOf_29 : decode b_X_sheetOf 29 = .ok (.iconst (-1), 1) := by decide +kernel
theorem d_X_sheetOf_30 : decode b_X_sheetOf 30 = .ok (.ireturn, 1) := by decide +kernel
theorem d_X_emptyPage_0 : decode b_X_emptyPage 0 = .ok (.aload_n 0, 1) := by decide +kernel
theorem d_X_emptyPage_1 : decode b_X_emptyPage 1 = .ok (.getfield 15, 3) := by decide +kernel
theorem d_X_emptyPage_4 : decode b_X_emptyPage 4 = .ok (.iload_n 1, 1) := by decide +kernel
theorem d_X_emptyPage_5 : decode b_X_emptyPage 5 = .ok (.aaload, 1) := by decide +kernel
theorem d_X_emptyPage_6 : decode b_X_emptyPage 6 = .ok (.iload_n 2, 1) := by decide +kernel
theorem d_X_emptyPage_7 : decode b_X_emptyPage 7 = .ok (.iaload, 1) := by decide +kernel
theorem d_X_emptyPage_8 : decode b_X_emptyPage 8 = .ok (.istore_n 3, 1) := by decide +kernel
theorem d_X_emptyPage_9 : decode b_X_emptyPage 9 = .ok (.aload_n 0, 1) := by decide +kernel
theorem d_X_emptyPage_10 : decode b_X_emptyPage 10 = .ok (.getfield 15, 3) := by decide +kernel
theorem d_X_emptyPage_13 : decode b_X_emptyPage 13 = .ok (.iload_n 1, 1) := by decide +kernel
theorem d_X_emptyPage_14 : decode b_X_emptyPage 14 = .ok (.aaload, 1) := by decide +kernel
theorem d_X_emptyPage_15 : decode b_X_emptyPage 15 = .ok (.iload_n 2, 1) := by decide +kernel
theorem d_X_emptyPage_16 : decode b_X_emptyPage 16 = .ok (.iconst (-1), 1) := by decide +kernel
theorem d_X_emptyPage_17 : decode b_X_emptyPage 17 = .ok (.iastore, 1) := by decide +kernel
theorem d_X_emptyPage_18 : decode b_X_emptyPage 18 = .ok (.iload_n 3, 1) := by decide +kernel
theorem d_X_emptyPage_19 : decode b_X_emptyPage 19 = .ok (.iconst (-1), 1) := by decide +kernel
theorem d_X_emptyPage_20 : decode b_X_emptyPage 20 = .ok (.if_icmp .eq 18, 3) := by decide +kernel
theorem d_X_emptyPage_23 : decode b_X_emptyPage 23 = .ok (.aload_n 0, 1) := by decide +kernel
theorem d_X_emptyPage_24 : decode b_X_emptyPage 24 = .ok (.getfield 32, 3) := by decide +kernel
theorem d_X_emptyPage_27 : decode b_X_emptyPage 27 = .ok (.iload_n 3, 1) := by decide +kernel
theorem d_X_emptyPage_28 : decode b_X_emptyPage 28 = .ok (.invokevirtual 132, 3) := by decide +kernel
theorem d_X_emptyPage_31 : decode b_X_emptyPage 31 = .ok (.ifCond .eq 7, 3) := by decide +kernel
theorem d_X_emptyPage_34 : decode b_X_emptyPage 34 = .ok (.iconst 1, 1) := by decide +kernel
theorem d_X_emptyPage_35 : decode b_X_emptyPage 35 = .ok (.goto 4, 3) := by decide +kernel
theorem d_X_emptyPage_38 : decode b_X_emptyPage 38 = .ok (.iconst 0, 1) := by decide +kernel
theorem d_X_emptyPage_39 : decode b_X_emptyPage 39 = .ok (.ireturn, 1) := by decide +kernel
theorem d_X_loadWord_0 : decode b_X_loadWord 0 = .ok (.aload_n 0, 1) := by decide +kernel
theorem d_X_loadWord_1 : decode b_X_loadWord 1 = .ok (.getfield 15, 3) := by decide +kernel
theorem d_X_loadWord_4 : decode b_X_loadWord 4 = .ok (.iload_n 1, 1) := by decide +kernel
theorem d_X_loadWord_5 : decode b_X_loadWord 5 = .ok (.aaload, 1) := by decide +kernel
theorem d_X_loadWord_6 : decode b_X_loadWord 6 = .ok (.iload_n 2, 1) := by decide +kernel
theorem d_X_loadWord_7 : decode b_X_loadWord 7 = .ok (.iconst 4, 1) := by decide +kernel
theorem d_X_loadWord_8 : decode b_X_loadWord 8 = .ok (.idiv, 1) := by decide +kernel
theorem d_X_loadWord_9 : decode b_X_loadWord 9 = .ok (.iaload, 1) := by decide +kernel
theorem d_X_loadWord_10 : decode b_X_loadWord 10 = .ok (.istore_n 3, 1) := by decide +kernel
theorem d_X_loadWord_11 : decode b_X_loadWord 11 = .ok (.iload_n 3, 1) := by decide +kernel
theorem d_X_loadWord_12 : decode b_X_loadWord 12 = .ok (.iconst (-1), 1) := by decide +kernel
theorem d_X_loadWord_13 : decode b_X_loadWord 13 = .ok (.if_icmp .ne 7, 3) := by decide +kernel
theorem d_X_loadWord_16 : decode b_X_loadWord 16 = .ok (.iconst 0, 1) := by decide +kernel
theorem d_X_loadWord_17 : decode b_X_loadWord 17 = .ok (.goto 14, 3) := by decide +kernel
theorem d_X_loadWord_20 : decode b_X_loadWord 20 = .ok (.aload_n 0, 1) := by decide +kernel
theorem d_X_loadWord_21 : decode b_X_loadWord 21 = .ok (.getfield 32, 3) := by decide +kernel
theorem d_X_loadWord_24 : decode b_X_loadWord 24 = .ok (.iload_n 3, 1) := by decide +kernel
theorem d_X_loadWord_25 : decode b_X_loadWord 25 = .ok (.iload_n 2, 1) := by decide +kernel
theorem d_X_loadWord_26 : decode b_X_loadWord 26 = .ok (.iconst 4, 1) := by decide +kernel
theorem d_X_loadWord_27 : decode b_X_loadWord 27 = .ok (.irem, 1) := by decide +kernel
theorem d_X_loadWord_28 : decode b_X_loadWord 28 = .ok (.invokevirtual 135, 3) := by decide +kernel
theorem d_X_loadWord_31 : decode b_X_loadWord 31 = .ok (.ireturn, 1) := by decide +kernel
theorem d_X_storeWord_0 : decode b_X_storeWord 0 = .ok (.iload_n 2, 1) := by decide +kernel
theorem d_X_storeWord_1 : decode b_X_storeWord 1 = .ok (.iconst 4, 1) := by decide +kernel
theorem d_X_storeWord_2 : decode b_X_storeWord 2 = .ok (.idiv, 1) := by decide +kernel
theorem d_X_storeWord_3 : decode b_X_storeWord 3 = .ok (.istore 4, 2) := by decide +kernel
theorem d_X_storeWord_5 : decode b_X_storeWord 5 = .ok (.aload_n 0, 1) := by decide +kernel
theorem d_X_storeWord_6 : decode b_X_storeWord 6 = .ok (.getfield 15, 3) := by decide +kernel
theorem d_X_storeWord_9 : decode b_X_storeWord 9 = .ok (.iload_n 1, 1) := by decide +kernel
theorem d_X_storeWord_10 : decode b_X_storeWord 10 = .ok (.aaload, 1) := by decide +kernel
theorem d_X_storeWord_11 : decode b_X_storeWord 11 = .ok (.iload 4, 2) := by decide +kernel
theorem d_X_storeWord_13 : decode b_X_storeWord 13 = .ok (.iaload, 1) := by decide +kernel
theorem d_X_storeWord_14 : decode b_X_storeWord 14 = .ok (.istore 5, 2) := by decide +kernel
theorem d_X_storeWord_16 : decode b_X_storeWord 16 = .ok (.iload 5, 2) := by decide +kernel
theorem d_X_storeWord_18 : decode b_X_storeWord 18 = .ok (.iconst (-1), 1) := by decide +kernel
theorem d_X_storeWord_19 : decode b_X_storeWord 19 = .ok (.if_icmp .eq 16, 3) := by decide +kernel
theorem d_X_storeWord_22 : decode b_X_storeWord 22 = .ok (.aload_n 0, 1) := by decide +kernel
theorem d_X_storeWord_23 : decode b_X_storeWord 23 = .ok (.getfield 32, 3) := by decide +kernel
theorem d_X_storeWord_26 : decode b_X_storeWord 26 = .ok (.iload 5, 2) := by decide +kernel
theorem d_X_storeWord_28 : decode b_X_storeWord 28 = .ok (.invokevirtual 93, 3) := by decide +kernel
theorem d_X_storeWord_31 : decode b_X_storeWord 31 = .ok (.iconst 1, 1) := by decide +kernel
theorem d_X_storeWord_32 : decode b_X_storeWord 32 = .ok (.if_icmp .le 12, 3) := by decide +kernel
theorem d_X_storeWord_35 : decode b_X_storeWord 35 = .ok (.aload_n 0, 1) := by decide +kernel
theorem d_X_storeWord_36 : decode b_X_storeWord 36 = .ok (.iload_n 1, 1) := by decide +kernel
theorem d_X_storeWord_37 : decode b_X_storeWord 37 = .ok (.iload 4, 2) := by decide +kernel
theorem d_X_storeWord_39 : decode b_X_storeWord 39 = .ok (.invokevirtual 138, 3) := by decide +kernel
theorem d_X_storeWord_42 : decode b_X_storeWord 42 = .ok (.istore 5, 2) := by decide +kernel
theorem d_X_storeWord_44 : decode b_X_storeWord 44 = .ok (.aload_n 0, 1) := by decide +kernel
theorem d_X_storeWord_45 : decode b_X_storeWord 45 = .ok (.getfield 32, 3) := by decide +kernel
theorem d_X_storeWord_48 : decode b_X_storeWord 48 = .ok (.iload 5, 2) := by decide +kernel
theorem d_X_storeWord_50 : decode b_X_storeWord 50 = .ok (.iload_n 2, 1) := by decide +kernel
theorem d_X_storeWord_51 : decode b_X_storeWord 51 = .ok (.iconst 4, 1) := by decide +kernel
theorem d_X_storeWord_52 : decode b_X_storeWord 52 = .ok (.irem, 1) := by decide +kernel
theorem d_X_storeWord_53 : decode b_X_storeWord 53 = .ok (.iload_n 3, 1) := by decide +kernel
theorem d_X_storeWord_54 : decode b_X_storeWord 54 = .ok (.invokevirtual 141, 3) := by decide +kernel
theorem d_X_storeWord_57 : decode b_X_storeWord 57 = .ok (.return_, 1) := by decide +kernel
theorem d_X_giveOwnSheet_0 : decode b_X_giveOwnSheet 0 = .ok (.aload_n 0, 1) := by decide +kernel
theorem d_X_giveOwnSheet_1 : decode b_X_giveOwnSheet 1 = .ok (.getfield 32, 3) := by decide +kernel
theorem d_X_giveOwnSheet_4 : decode b_X_giveOwnSheet 4 = .ok (.invokevirtual 144, 3) := by decide +kernel
theorem d_X_giveOwnSheet_7 : decode b_X_giveOwnSheet 7 = .ok (.istore_n 3, 1) := by decide +kernel
theorem d_X_giveOwnSheet_8 : decode b_X_giveOwnSheet 8 = .ok (.iload_n 3, 1) := by decide +kernel
theorem d_X_giveOwnSheet_9 : decode b_X_giveOwnSheet 9 = .ok (.iconst (-1), 1) := by decide +kernel
theorem d_X_giveOwnSheet_10 : decode b_X_giveOwnSheet 10 = .ok (.if_icmp .ne 13, 3) := by decide +kernel
theorem d_X_giveOwnSheet_13 : decode b_X_giveOwnSheet 13 = .ok (.new 46, 3) := by decide +kernel
theorem d_X_giveOwnSheet_16 : decode b_X_giveOwnSheet 16 = .ok (.dup, 1) := by decide +kernel
theorem d_X_giveOwnSheet_17 : decode b_X_giveOwnSheet 17 = .ok (.ldc 147, 2) := by decide +kernel
theorem d_X_giveOwnSheet_19 : decode b_X_giveOwnSheet 19 = .ok (.invokespecial 50, 3) := by decide +kernel
theorem d_X_giveOwnSheet_22 : decode b_X_giveOwnSheet 22 = .ok (.athrow, 1) := by decide +kernel
theorem d_X_giveOwnSheet_23 : decode b_X_giveOwnSheet 23 = .ok (.aload_n 0, 1) := by decide +kernel
theorem d_X_giveOwnSheet_24 : decode b_X_giveOwnSheet 24 = .ok (.getfield 15, 3) := by decide +kernel
theorem d_X_giveOwnSheet_27 : decode b_X_giveOwnSheet 27 = .ok (.iload_n 1, 1) := by decide +kernel
theorem d_X_giveOwnSheet_28 : decode b_X_giveOwnSheet 28 = .ok (.aaload, 1) := by decide +kernel
theorem d_X_giveOwnSheet_29 : decode b_X_giveOwnSheet 29 = .ok (.iload_n 2, 1) := by decide +kernel
theorem d_X_giveOwnSheet_30 : decode b_X_giveOwnSheet 30 = .ok (.iaload, 1) := by decide +kernel
theorem d_X_giveOwnSheet_31 : decode b_X_giveOwnSheet 31 = .ok (.istore 4, 2) := by decide +kernel
theorem d_X_giveOwnSheet_33 : decode b_X_giveOwnSheet 33 = .ok (.iload 4, 2) := by decide +kernel
theorem d_X_giveOwnSheet_35 : decode b_X_giveOwnSheet 35 = .ok (.iconst (-1), 1) := by decide +kernel
theorem d_X_giveOwnSheet_36 : decode b_X_giveOwnSheet 36 = .ok (.if_icmp .eq 23, 3) := by decide +kernel
theorem d_X_giveOwnSheet_39 : decode b_X_giveOwnSheet 39 = .ok (.aload_n 0, 1) := by decide +kernel
theorem d_X_giveOwnSheet_40 : decode b_X_giveOwnSheet 40 = .ok (.getfield 32, 3) := by decide +kernel
theorem d_X_giveOwnSheet_43 : decode b_X_giveOwnSheet 43 = .ok (.iload 4, 2) := by decide +kernel
theorem d_X_giveOwnSheet_45 : decode b_X_giveOwnSheet 45 = .ok (.iload_n 3, 1) := by decide +kernel
theorem d_X_giveOwnSheet_46 : decode b_X_giveOwnSheet 46 = .ok (.invokevirtual 149, 3) := by decide +kernel
theorem d_X_giveOwnSheet_49 : decode b_X_giveOwnSheet 49 = .ok (.aload_n 0, 1) := by decide +kernel
theorem d_X_giveOwnSheet_50 : decode b_X_giveOwnSheet 50 = .ok (.getfield 32, 3) := by decide +kernel
theorem d_X_giveOwnSheet_53 : decode b_X_giveOwnSheet 53 = .ok (.iload 4, 2) := by decide +kernel
theorem d_X_giveOwnSheet_55 : decode b_X_giveOwnSheet 55 = .ok (.invokevirtual 132, 3) := by decide +kernel
theorem d_X_giveOwnSheet_58 : decode b_X_giveOwnSheet 58 = .ok (.pop, 1) := by decide +kernel
theorem d_X_giveOwnSheet_59 : decode b_X_giveOwnSheet 59 = .ok (.aload_n 0, 1) := by decide +kernel
theorem d_X_giveOwnSheet_60 : decode b_X_giveOwnSheet 60 = .ok (.getfield 15, 3) := by decide +kernel
theorem d_X_giveOwnSheet_63 : decode b_X_giveOwnSheet 63 = .ok (.iload_n 1, 1) := by decide +kernel
theorem d_X_giveOwnSheet_64 : decode b_X_giveOwnSheet 64 = .ok (.aaload, 1) := by decide +kernel
theorem d_X_giveOwnSheet_65 : decode b_X_giveOwnSheet 65 = .ok (.iload_n 2, 1) := by decide +kernel
theorem d_X_giveOwnSheet_66 : decode b_X_giveOwnSheet 66 = .ok (.iload_n 3, 1) := by decide +kernel
theorem d_X_giveOwnSheet_67 : decode b_X_giveOwnSheet 67 = .ok (.iastore, 1) := by decide +kernel
theorem d_X_giveOwnSheet_68 : decode b_X_giveOwnSheet 68 = .ok (.iload_n 3, 1) := by decide +kernel
theorem d_X_giveOwnSheet_69 : decode b_X_giveOwnSheet 69 = .ok (.ireturn, 1) := by decide +kernel
theorem d_X_lowestFree_0 : decode b_X_lowestFree 0 = .ok (.iconst 0, 1) := by decide +kernel
theorem d_X_lowestFree_1 : decode b_X_lowestFree 1 = .ok (.istore_n 1, 1) := by decide +kernel
theorem d_X_lowestFree_2 : decode b_X_lowestFree 2 = .ok (.iload_n 1, 1) := by decide +kernel
theorem d_X_lowestFree_3 : decode b_X_lowestFree 3 = .ok (.aload_n 0, 1) := by decide +kernel
theorem d_X_lowestFree_4 : decode b_X_lowestFree 4 = .ok (.arraylength, 1) := by decide +kernel
theorem d_X_lowestFree_5 : decode b_X_lowestFree 5 = .ok (.if_icmp .ge 18, 3) := by decide +kernel
theorem d_X_lowestFree_8 : decode b_X_lowestFree 8 = .ok (.aload_n 0, 1) := by decide +kernel
theorem d_X_lowestFree_9 : decode b_X_lowestFree 9 = .ok (.iload_n 1, 1) := by decide +kernel
theorem d_X_lowestFree_10 : decode b_X_lowestFree 10 = .ok (.iaload, 1) := by decide +kernel
theorem d_X_lowestFree_11 : decode b_X_lowestFree 11 = .ok (.iconst (-1), 1) := by decide +kernel
theorem d_X_lowestFree_12 : decode b_X_lowestFree 12 = .ok (.if_icmp .ne 5, 3) := by decide +kernel
theorem d_X_lowestFree_15 : decode b_X_lowestFree 15 = .ok (.iload_n 1, 1) := by decide +kernel
theorem d_X_lowestFree_16 : decode b_X_lowestFree 16 = .ok (.ireturn, 1) := by decide +kernel
theorem d_X_lowestFree_17 : decode b_X_lowestFree 17 = .ok (.iinc 1 1, 3) := by decide +kernel
theorem d_X_lowestFree_20 : decode b_X_lowestFree 20 = .ok (.goto (-18), 3) := by decide +kernel
theorem d_X_lowestFree_23 : decode b_X_lowestFree 23 = .ok (.iconst (-1), 1) := by decide +kernel
theorem d_X_lowestFree_24 : decode b_X_lowestFree 24 = .ok (.ireturn, 1) := by decide +kernel
theorem d_X_countFree_0 : decode b_X_countFree 0 = .ok (.iconst 0, 1) := by decide +kernel
theorem d_X_countFree_1 : decode b_X_countFree 1 = .ok (.istore_n 1, 1) := by decide +kernel
theorem d_X_countFree_2 : decode b_X_countFree 2 = .ok (.iconst 0, 1) := by decide +kernel
theorem d_X_countFree_3 : decode b_X_countFree 3 = .ok (.istore_n 2, 1) := by decide +kernel
theorem d_X_countFree_4 : decode b_X_countFree 4 = .ok (.iload_n 2, 1) := by decide +kernel
theorem d_X_countFree_5 : decode b_X_countFree 5 = .ok (.aload_n 0, 1) := by decide +kernel
theorem d_X_countFree_6 : decode b_X_countFree 6 = .ok (.arraylength, 1) := by decide +kernel
theorem d_X_countFree_7 : decode b_X_countFree 7 = .ok (.if_icmp .ge 19, 3) := by decide +kernel
theorem d_X_countFree_10 : decode b_X_countFree 10 = .ok (.aload_n 0, 1) := by decide +kernel
theorem d_X_countFree_11 : decode b_X_countFree 11 = .ok (.iload_n 2, 1) := by decide +kernel
theorem d_X_countFree_12 : decode b_X_countFree 12 = .ok (.iaload, 1) := by decide +kernel
theorem d_X_countFree_13 : decode b_X_countFree 13 = .ok (.iconst (-1), 1) := by decide +kernel
theorem d_X_countFree_14 : decode b_X_countFree 14 = .ok (.if_icmp .ne 6, 3) := by decide +kernel
theorem d_X_countFree_17 : decode b_X_countFree 17 = .ok (.iinc 1 1, 3) := by decide +kernel
theorem d_X_countFree_20 : decode b_X_countFree 20 = .ok (.iinc 2 1, 3) := by decide +kernel
theorem d_X_countFree_23 : decode b_X_countFree 23 = .ok (.goto (-19), 3) := by decide +kernel
theorem d_X_countFree_26 : decode b_X_countFree 26 = .ok (.iload_n 1, 1) := by decide +kernel
theorem d_X_countFree_27 : decode b_X_countFree 27 = .ok (.ireturn, 1) := by decide +kernel
theorem d_X_freeRow_0 : decode b_X_freeRow 0 = .ok (.iload_n 0, 1) := by decide +kernel
theorem d_X_freeRow_1 : decode b_X_freeRow 1 = .ok (.newarray .int, 2) := by decide +kernel
theorem d_X_freeRow_3 : decode b_X_freeRow 3 = .ok (.astore_n 1, 1) := by decide +kernel
theorem d_X_freeRow_4 : decode b_X_freeRow 4 = .ok (.aload_n 1, 1) := by decide +kernel
theorem d_X_freeRow_5 : decode b_X_freeRow 5 = .ok (.iconst (-1), 1) := by decide +kernel
theorem d_X_freeRow_6 : decode b_X_freeRow 6 = .ok (.invokestatic 36, 3) := by decide +kernel
theorem d_X_freeRow_9 : decode b_X_freeRow 9 = .ok (.aload_n 1, 1) := by decide +kernel
theorem d_X_freeRow_10 : decode b_X_freeRow 10 = .ok (.areturn, 1) := by decide +kernel
