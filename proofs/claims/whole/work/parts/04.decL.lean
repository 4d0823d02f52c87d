/-! what stands at each place of the code, by program -/
theorem d_L_cell_0 : decode b_L_cell 0 = .ok (.iload_n 1, 1) := by decide +kernel
theorem d_L_cell_1 : decode b_L_cell 1 = .ok (.aload_n 0, 1) := by decide +kernel
theorem d_L_cell_2 : decode b_L_cell 2 = .ok (.arraylength, 1) := by decide +kernel
theorem d_L_cell_3 : decode b_L_cell 3 = .ok (.if_icmp .ge 9, 3) := by decide +kernel
theorem d_L_cell_6 : decode b_L_cell 6 = .ok (.aload_n 0, 1) := by decide +kernel
theorem d_L_cell_7 : decode b_L_cell 7 = .ok (.iload_n 1, 1) := by decide +kernel
theorem d_L_cell_8 : decode b_L_cell 8 = .ok (.iaload, 1) := by decide +kernel
theorem d_L_cell_9 : decode b_L_cell 9 = .ok (.goto 4, 3) := by decide +kernel
theorem d_L_cell_12 : decode b_L_cell 12 = .ok (.iconst 0, 1) := by decide +kernel
theorem d_L_cell_13 : decode b_L_cell 13 = .ok (.ireturn, 1) := by decide +kernel
theorem d_L_spawn_0 : decode b_L_spawn 0 = .ok (.aload_n 1, 1) := by decide +kernel
theorem d_L_spawn_1 : decode b_L_spawn 1 = .ok (.iconst 0, 1) := by decide +kernel
theorem d_L_spawn_2 : decode b_L_spawn 2 = .ok (.aload_n 0, 1) := by decide +kernel
theorem d_L_spawn_3 : decode b_L_spawn 3 = .ok (.invokevirtual 7, 3) := by decide +kernel
theorem d_L_spawn_6 : decode b_L_spawn 6 = .ok (.i2l, 1) := by decide +kernel
theorem d_L_spawn_7 : decode b_L_spawn 7 = .ok (.lastore, 1) := by decide +kernel
theorem d_L_spawn_8 : decode b_L_spawn 8 = .ok (.goto 6, 3) := by decide +kernel
theorem d_L_spawn_11 : decode b_L_spawn 11 = .ok (.astore_n 2, 1) := by decide +kernel
theorem d_L_spawn_12 : decode b_L_spawn 12 = .ok (.iconst 1, 1) := by decide +kernel
theorem d_L_spawn_13 : decode b_L_spawn 13 = .ok (.ireturn, 1) := by decide +kernel
theorem d_L_spawn_14 : decode b_L_spawn 14 = .ok (.iconst 0, 1) := by decide +kernel
theorem d_L_spawn_15 : decode b_L_spawn 15 = .ok (.ireturn, 1) := by decide +kernel
theorem d_L_fork_0 : decode b_L_fork 0 = .ok (.aload_n 2, 1) := by decide +kernel
theorem d_L_fork_1 : decode b_L_fork 1 = .ok (.iconst 0, 1) := by decide +kernel
theorem d_L_fork_2 : decode b_L_fork 2 = .ok (.aload_n 0, 1) := by decide +kernel
theorem d_L_fork_3 : decode b_L_fork 3 = .ok (.iload_n 1, 1) := by decide +kernel
theorem d_L_fork_4 : decode b_L_fork 4 = .ok (.invokevirtual 15, 3) := by decide +kernel
theorem d_L_fork_7 : decode b_L_fork 7 = .ok (.i2l, 1) := by decide +kernel
theorem d_L_fork_8 : decode b_L_fork 8 = .ok (.lastore, 1) := by decide +kernel
theorem d_L_fork_9 : decode b_L_fork 9 = .ok (.goto 9, 3) := by decide +kernel
theorem d_L_fork_12 : decode b_L_fork 12 = .ok (.astore_n 3, 1) := by decide +kernel
theorem d_L_fork_13 : decode b_L_fork 13 = .ok (.iconst 1, 1) := by decide +kernel
theorem d_L_fork_14 : decode b_L_fork 14 = .ok (.ireturn, 1) := by decide +kernel
theorem d_L_fork_15 : decode b_L_fork 15 = .ok (.astore_n 3, 1) := by decide +kernel
theorem d_L_fork_16 : decode b_L_fork 16 = .ok (.iconst 2, 1) := by decide +kernel
theorem d_L_fork_17 : decode b_L_fork 17 = .ok (.ireturn, 1) := by decide +kernel
theorem d_L_fork_18 : decode b_L_fork 18 = .ok (.iconst 0, 1) := by decide +kernel
theorem d_L_fork_19 : decode b_L_fork 19 = .ok (.ireturn, 1) := by decide +kernel
theorem d_L_exit_0 : decode b_L_exit 0 = .ok (.aload_n 2, 1) := by decide +kernel
theorem d_L_exit_1 : decode b_L_exit 1 = .ok (.iconst 0, 1) := by decide +kernel
theorem d_L_exit_2 : decode b_L_exit 2 = .ok (.aload_n 0, 1) := by decide +kernel
theorem d_L_exit_3 : decode b_L_exit 3 = .ok (.iload_n 1, 1) := by decide +kernel
theorem d_L_exit_4 : decode b_L_exit 4 = .ok (.invokevirtual 21, 3) := by decide +kernel
theorem d_L_exit_7 : decode b_L_exit 7 = .ok (.i2l, 1) := by decide +kernel
theorem d_L_exit_8 : decode b_L_exit 8 = .ok (.lastore, 1) := by decide +kernel
theorem d_L_exit_9 : decode b_L_exit 9 = .ok (.goto 6, 3) := by decide +kernel
theorem d_L_exit_12 : decode b_L_exit 12 = .ok (.astore_n 3, 1) := by decide +kernel
theorem d_L_exit_13 : decode b_L_exit 13 = .ok (.iconst 1, 1) := by decide +kernel
theorem d_L_exit_14 : decode b_L_exit 14 = .ok (.ireturn, 1) := by decide +kernel
theorem d_L_exit_15 : decode b_L_exit 15 = .ok (.iconst 0, 1) := by decide +kernel
theorem d_L_exit_16 : decode b_L_exit 16 = .ok (.ireturn, 1) := by decide +kernel
theorem d_L_drop_0 : decode b_L_drop 0 = .ok (.aload_n 3, 1) := by decide +kernel
theorem d_L_drop_1 : decode b_L_drop 1 = .ok (.iconst 0, 1) := by decide +kernel
theorem d_L_drop_2 : decode b_L_drop 2 = .ok (.aload_n 0, 1) := by decide +kernel
theorem d_L_drop_3 : decode b_L_drop 3 = .ok (.iload_n 1, 1) := by decide +kernel
theorem d_L_drop_4 : decode b_L_drop 4 = .ok (.iload_n 2, 1) := by decide +kernel
theorem d_L_drop_5 : decode b_L_drop 5 = .ok (.invokevirtual 24, 3) := by decide +kernel
theorem d_L_drop_8 : decode b_L_drop 8 = .ok (.ifCond .eq 7, 3) := by decide +kernel
theorem d_L_drop_11 : decode b_L_drop 11 = .ok (.lconst 1, 1) := by decide +kernel
theorem d_L_drop_12 : decode b_L_drop 12 = .ok (.goto 4, 3) := by decide +kernel
theorem d_L_drop_15 : decode b_L_drop 15 = .ok (.lconst 0, 1) := by decide +kernel
theorem d_L_drop_16 : decode b_L_drop 16 = .ok (.lastore, 1) := by decide +kernel
theorem d_L_drop_17 : decode b_L_drop 17 = .ok (.goto 11, 3) := by decide +kernel
theorem d_L_drop_20 : decode b_L_drop 20 = .ok (.astore 4, 2) := by decide +kernel
theorem d_L_drop_22 : decode b_L_drop 22 = .ok (.iconst 1, 1) := by decide +kernel
theorem d_L_drop_23 : decode b_L_drop 23 = .ok (.ireturn, 1) := by decide +kernel
theorem d_L_drop_24 : decode b_L_drop 24 = .ok (.astore 4, 2) := by decide +kernel
theorem d_L_drop_26 : decode b_L_drop 26 = .ok (.iconst 2, 1) := by decide +kernel
theorem d_L_drop_27 : decode b_L_drop 27 = .ok (.ireturn, 1) := by decide +kernel
theorem d_L_drop_28 : decode b_L_drop 28 = .ok (.iconst 0, 1) := by decide +kernel
theorem d_L_drop_29 : decode b_L_drop 29 = .ok (.ireturn, 1) := by decide +kernel
theorem d_L_load_0 : decode b_L_load 0 = .ok (.aload_n 3, 1) := by decide +kernel
theorem d_L_load_1 : decode b_L_load 1 = .ok (.iconst 0, 1) := by decide +kernel
theorem d_L_load_2 : decode b_L_load 2 = .ok (.aload_n 0, 1) := by decide +kernel
theorem d_L_load_3 : decode b_L_load 3 = .ok (.iload_n 1, 1) := by decide +kernel
theorem d_L_load_4 : decode b_L_load 4 = .ok (.iload_n 2, 1) := by decide +kernel
theorem d_L_load_5 : decode b_L_load 5 = .ok (.invokevirtual 30, 3) := by decide +kernel
theorem d_L_load_8 : decode b_L_load 8 = .ok (.i2l, 1) := by decide +kernel
theorem d_L_load_9 : decode b_L_load 9 = .ok (.lastore, 1) := by decide +kernel
theorem d_L_load_10 : decode b_L_load 10 = .ok (.goto 11, 3) := by decide +kernel
theorem d_L_load_13 : decode b_L_load 13 = .ok (.astore 4, 2) := by decide +kernel
theorem d_L_load_15 : decode b_L_load 15 = .ok (.iconst 1, 1) := by decide +kernel
theorem d_L_load_16 : decode b_L_load 16 = .ok (.ireturn, 1) := by decide +kernel
theorem d_L_load_17 : decode b_L_load 17 = .ok (.astore 4, 2) := by decide +kernel
theorem d_L_load_19 : decode b_L_load 19 = .ok (.iconst 2, 1) := by decide +kernel
theorem d_L_load_20 : decode b_L_load 20 = .ok (.ireturn, 1) := by decide +kernel
theorem d_L_load_21 : decode b_L_load 21 = .ok (.iconst 0, 1) := by decide +kernel
theorem d_L_load_22 : decode b_L_load 22 = .ok (.ireturn, 1) := by decide +kernel
theorem d_L_store_0 : decode b_L_store 0 = .ok (.aload_n 0, 1) := by decide +kernel
theorem d_L_store_1 : decode b_L_store 1 = .ok (.iload_n 1, 1) := by decide +kernel
theorem d_L_store_2 : decode b_L_store 2 = .ok (.iload_n 2, 1) := by decide +kernel
theorem d_L_store_3 : decode b_L_store 3 = .ok (.iload_n 3, 1) := by decide +kernel
theorem d_L_store_4 : decode b_L_store 4 = .ok (.invokevirtual 34, 3) := by decide +kernel
theorem d_L_store_7 : decode b_L_store 7 = .ok (.goto 15, 3) := by decide +kernel
theorem d_L_store_10 : decode b_L_store 10 = .ok (.astore 4, 2) := by decide +kernel
theorem d_L_store_12 : decode b_L_store 12 = .ok (.iconst 1, 1) := by decide +kernel
theorem d_L_store_13 : decode b_L_store 13 = .ok (.ireturn, 1) := by decide +kernel
theorem d_L_store_14 : decode b_L_store 14 = .ok (.astore 4, 2) := by decide +kernel
theorem d_L_store_16 : decode b_L_store 16 = .ok (.iconst 2, 1) := by decide +kernel
theorem d_L_store_17 : decode b_L_store 17 = .ok (.ireturn, 1) := by decide +kernel
theorem d_L_store_18 : decode b_L_store 18 = .ok (.astore 4, 2) := by decide +kernel
theorem d_L_store_20 : decode b_L_store 20 = .ok (.iconst 3, 1) := by decide +kernel
theorem d_L_store_21 : decode b_L_store 21 = .ok (.ireturn, 1) := by decide +kernel
theorem d_L_store_22 : decode b_L_store 22 = .ok (.iconst 0, 1) := by decide +kernel
theorem d_L_store_23 : decode b_L_store 23 = .ok (.ireturn, 1) := by decide +kernel
theorem d_L_copy_0 : decode b_L_copy 0 = .ok (.aload_n 0, 1) := by decide +kernel
theorem d_L_copy_1 : decode b_L_copy 1 = .ok (.iload_n 1, 1) := by decide +kernel
theorem d_L_copy_2 : decode b_L_copy 2 = .ok (.iload_n 2, 1) := by decide +kernel
theorem d_L_copy_3 : decode b_L_copy 3 = .ok (.iload_n 3, 1) := by decide +kernel
theorem d_L_copy_4 : decode b_L_copy 4 = .ok (.iload 4, 2) := by decide +kernel
theorem d_L_copy_6 : decode b_L_copy 6 = .ok (.invokevirtual 38, 3) := by decide +kernel
theorem d_L_copy_9 : decode b_L_copy 9 = .ok (.goto 15, 3) := by decide +kernel
theorem d_L_copy_12 : decode b_L_copy 12 = .ok (.astore 5, 2) := by decide +kernel
theorem d_L_copy_14 : decode b_L_copy 14 = .ok (.iconst 1, 1) := by decide +kernel
theorem d_L_copy_15 : decode b_L_copy 15 = .ok (.ireturn, 1) := by decide +kernel
theorem d_L_copy_16 : decode b_L_copy 16 = .ok (.astore 5, 2) := by decide +kernel
theorem d_L_copy_18 : decode b_L_copy 18 = .ok (.iconst 2, 1) := by decide +kernel
theorem d_L_copy_19 : decode b_L_copy 19 = .ok (.ireturn, 1) := by decide +kernel
theorem d_L_copy_20 : decode b_L_copy 20 = .ok (.astore 5, 2) := by decide +kernel
theorem d_L_copy_22 : decode b_L_copy 22 = .ok (.iconst 3, 1) := by decide +kernel
theorem d_L_copy_23 : decode b_L_copy 23 = .ok (.ireturn, 1) := by decide +kernel
theorem d_L_copy_24 : decode b_L_copy 24 = .ok (.iconst 0, 1) := by decide +kernel
theorem d_L_copy_25 : decode b_L_copy 25 = .ok (.ireturn, 1) := by decide +kernel
