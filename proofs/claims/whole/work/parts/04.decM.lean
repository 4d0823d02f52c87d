/-! what stands at each place of the code, by program -/
theorem d_M_init_0 : decode b_M_init 0 = .ok (.aload_n 0, 1) := by decide +kernel
theorem d_M_init_1 : decode b_M_init 1 = .ok (.invokespecial 3, 3) := by decide +kernel
theorem d_M_init_4 : decode b_M_init 4 = .ok (.aload_n 0, 1) := by decide +kernel
theorem d_M_init_5 : decode b_M_init 5 = .ok (.iload_n 1, 1) := by decide +kernel
theorem d_M_init_6 : decode b_M_init 6 = .ok (.invokestatic 9, 3) := by decide +kernel
theorem d_M_init_9 : decode b_M_init 9 = .ok (.putfield 13, 3) := by decide +kernel
theorem d_M_init_12 : decode b_M_init 12 = .ok (.aload_n 0, 1) := by decide +kernel
theorem d_M_init_13 : decode b_M_init 13 = .ok (.iload_n 2, 1) := by decide +kernel
theorem d_M_init_14 : decode b_M_init 14 = .ok (.invokestatic 9, 3) := by decide +kernel
theorem d_M_init_17 : decode b_M_init 17 = .ok (.putfield 19, 3) := by decide +kernel
theorem d_M_init_20 : decode b_M_init 20 = .ok (.aload_n 0, 1) := by decide +kernel
theorem d_M_init_21 : decode b_M_init 21 = .ok (.iload_n 1, 1) := by decide +kernel
theorem d_M_init_22 : decode b_M_init 22 = .ok (.newarray .boolean, 2) := by decide +kernel
theorem d_M_init_24 : decode b_M_init 24 = .ok (.putfield 22, 3) := by decide +kernel
theorem d_M_init_27 : decode b_M_init 27 = .ok (.aload_n 0, 1) := by decide +kernel
theorem d_M_init_28 : decode b_M_init 28 = .ok (.iload_n 1, 1) := by decide +kernel
theorem d_M_init_29 : decode b_M_init 29 = .ok (.iload_n 2, 1) := by decide +kernel
theorem d_M_init_30 : decode b_M_init 30 = .ok (.iadd, 1) := by decide +kernel
theorem d_M_init_31 : decode b_M_init 31 = .ok (.invokestatic 9, 3) := by decide +kernel
theorem d_M_init_34 : decode b_M_init 34 = .ok (.putfield 26, 3) := by decide +kernel
theorem d_M_init_37 : decode b_M_init 37 = .ok (.aload_n 0, 1) := by decide +kernel
theorem d_M_init_38 : decode b_M_init 38 = .ok (.iload_n 1, 1) := by decide +kernel
theorem d_M_init_39 : decode b_M_init 39 = .ok (.iload_n 2, 1) := by decide +kernel
theorem d_M_init_40 : decode b_M_init 40 = .ok (.iadd, 1) := by decide +kernel
theorem d_M_init_41 : decode b_M_init 41 = .ok (.newarray .int, 2) := by decide +kernel
theorem d_M_init_43 : decode b_M_init 43 = .ok (.putfield 29, 3) := by decide +kernel
theorem d_M_init_46 : decode b_M_init 46 = .ok (.aload_n 0, 1) := by decide +kernel
theorem d_M_init_47 : decode b_M_init 47 = .ok (.iload_n 1, 1) := by decide +kernel
theorem d_M_init_48 : decode b_M_init 48 = .ok (.iload_n 2, 1) := by decide +kernel
theorem d_M_init_49 : decode b_M_init 49 = .ok (.iadd, 1) := by decide +kernel
theorem d_M_init_50 : decode b_M_init 50 = .ok (.iconst 4, 1) := by decide +kernel
theorem d_M_init_51 : decode b_M_init 51 = .ok (.multianewarray 32 2, 4) := by decide +kernel
theorem d_M_init_55 : decode b_M_init 55 = .ok (.putfield 34, 3) := by decide +kernel
theorem d_M_init_58 : decode b_M_init 58 = .ok (.return_, 1) := by decide +kernel
theorem d_M_placeOf_0 : decode b_M_placeOf 0 = .ok (.aload_n 0, 1) := by decide +kernel
theorem d_M_placeOf_1 : decode b_M_placeOf 1 = .ok (.getfield 26, 3) := by decide +kernel
theorem d_M_placeOf_4 : decode b_M_placeOf 4 = .ok (.iload_n 1, 1) := by decide +kernel
theorem d_M_placeOf_5 : decode b_M_placeOf 5 = .ok (.iaload, 1) := by decide +kernel
theorem d_M_placeOf_6 : decode b_M_placeOf 6 = .ok (.ireturn, 1) := by decide +kernel
theorem d_M_pagesOf_0 : decode b_M_pagesOf 0 = .ok (.aload_n 0, 1) := by decide +kernel
theorem d_M_pagesOf_1 : decode b_M_pagesOf 1 = .ok (.getfield 29, 3) := by decide +kernel
theorem d_M_pagesOf_4 : decode b_M_pagesOf 4 = .ok (.iload_n 1, 1) := by decide +kernel
theorem d_M_pagesOf_5 : decode b_M_pagesOf 5 = .ok (.iaload, 1) := by decide +kernel
theorem d_M_pagesOf_6 : decode b_M_pagesOf 6 = .ok (.ireturn, 1) := by decide +kernel
theorem d_M_hasMark_0 : decode b_M_hasMark 0 = .ok (.iload_n 1, 1) := by decide +kernel
theorem d_M_hasMark_1 : decode b_M_hasMark 1 = .ok (.ifCond .lt 25, 3) := by decide +kernel
theorem d_M_hasMark_4 : decode b_M_hasMark 4 = .ok (.iload_n 1, 1) := by decide +kernel
theorem d_M_hasMark_5 : decode b_M_hasMark 5 = .ok (.aload_n 0, 1) := by decide +kernel
theorem d_M_hasMark_6 : decode b_M_hasMark 6 = .ok (.getfield 22, 3) := by decide +kernel
theorem d_M_hasMark_9 : decode b_M_hasMark 9 = .ok (.arraylength, 1) := by decide +kernel
theorem d_M_hasMark_10 : decode b_M_hasMark 10 = .ok (.if_icmp .ge 16, 3) := by decide +kernel
theorem d_M_hasMark_13 : decode b_M_hasMark 13 = .ok (.aload_n 0, 1) := by decide +kernel
theorem d_M_hasMark_14 : decode b_M_hasMark 14 = .ok (.getfield 22, 3) := by decide +kernel
theorem d_M_hasMark_17 : decode b_M_hasMark 17 = .ok (.iload_n 1, 1) := by decide +kernel
theorem d_M_hasMark_18 : decode b_M_hasMark 18 = .ok (.baload, 1) := by decide +kernel
theorem d_M_hasMark_19 : decode b_M_hasMark 19 = .ok (.ifCond .eq 7, 3) := by decide +kernel
theorem d_M_hasMark_22 : decode b_M_hasMark 22 = .ok (.iconst 1, 1) := by decide +kernel
theorem d_M_hasMark_23 : decode b_M_hasMark 23 = .ok (.goto 4, 3) := by decide +kernel
theorem d_M_hasMark_26 : decode b_M_hasMark 26 = .ok (.iconst 0, 1) := by decide +kernel
theorem d_M_hasMark_27 : decode b_M_hasMark 27 = .ok (.ireturn, 1) := by decide +kernel
theorem d_M_read_0 : decode b_M_read 0 = .ok (.aload_n 0, 1) := by decide +kernel
theorem d_M_read_1 : decode b_M_read 1 = .ok (.iload_n 1, 1) := by decide +kernel
theorem d_M_read_2 : decode b_M_read 2 = .ok (.invokevirtual 37, 3) := by decide +kernel
theorem d_M_read_5 : decode b_M_read 5 = .ok (.aload_n 0, 1) := by decide +kernel
theorem d_M_read_6 : decode b_M_read 6 = .ok (.getfield 34, 3) := by decide +kernel
theorem d_M_read_9 : decode b_M_read 9 = .ok (.iload_n 1, 1) := by decide +kernel
theorem d_M_read_10 : decode b_M_read 10 = .ok (.aaload, 1) := by decide +kernel
theorem d_M_read_11 : decode b_M_read 11 = .ok (.iload_n 2, 1) := by decide +kernel
theorem d_M_read_12 : decode b_M_read 12 = .ok (.iaload, 1) := by decide +kernel
theorem d_M_read_13 : decode b_M_read 13 = .ok (.ireturn, 1) := by decide +kernel
theorem d_M_write_0 : decode b_M_write 0 = .ok (.aload_n 0, 1) := by decide +kernel
theorem d_M_write_1 : decode b_M_write 1 = .ok (.iload_n 1, 1) := by decide +kernel
theorem d_M_write_2 : decode b_M_write 2 = .ok (.invokevirtual 37, 3) := by decide +kernel
theorem d_M_write_5 : decode b_M_write 5 = .ok (.aload_n 0, 1) := by decide +kernel
theorem d_M_write_6 : decode b_M_write 6 = .ok (.getfield 34, 3) := by decide +kernel
theorem d_M_write_9 : decode b_M_write 9 = .ok (.iload_n 1, 1) := by decide +kernel
theorem d_M_write_10 : decode b_M_write 10 = .ok (.aaload, 1) := by decide +kernel
theorem d_M_write_11 : decode b_M_write 11 = .ok (.iload_n 2, 1) := by decide +kernel
theorem d_M_write_12 : decode b_M_write 12 = .ok (.iload_n 3, 1) := by decide +kernel
theorem d_M_write_13 : decode b_M_write 13 = .ok (.iastore, 1) := by decide +kernel
theorem d_M_write_14 : decode b_M_write 14 = .ok (.return_, 1) := by decide +kernel
theorem d_M_copyWords_0 : decode b_M_copyWords 0 = .ok (.aload_n 0, 1) := by decide +kernel
theorem d_M_copyWords_1 : decode b_M_copyWords 1 = .ok (.getfield 34, 3) := by decide +kernel
theorem d_M_copyWords_4 : decode b_M_copyWords 4 = .ok (.iload_n 1, 1) := by decide +kernel
theorem d_M_copyWords_5 : decode b_M_copyWords 5 = .ok (.aaload, 1) := by decide +kernel
theorem d_M_copyWords_6 : decode b_M_copyWords 6 = .ok (.iconst 0, 1) := by decide +kernel
theorem d_M_copyWords_7 : decode b_M_copyWords 7 = .ok (.aload_n 0, 1) := by decide +kernel
theorem d_M_copyWords_8 : decode b_M_copyWords 8 = .ok (.getfield 34, 3) := by decide +kernel
theorem d_M_copyWords_11 : decode b_M_copyWords 11 = .ok (.iload_n 2, 1) := by decide +kernel
theorem d_M_copyWords_12 : decode b_M_copyWords 12 = .ok (.aaload, 1) := by decide +kernel
theorem d_M_copyWords_13 : decode b_M_copyWords 13 = .ok (.iconst 0, 1) := by decide +kernel
theorem d_M_copyWords_14 : decode b_M_copyWords 14 = .ok (.iconst 4, 1) := by decide +kernel
theorem d_M_copyWords_15 : decode b_M_copyWords 15 = .ok (.invokestatic 41, 3) := by decide +kernel
theorem d_M_copyWords_18 : decode b_M_copyWords 18 = .ok (.return_, 1) := by decide +kernel
theorem d_M_make_0 : decode b_M_make 0 = .ok (.aload_n 0, 1) := by decide +kernel
theorem d_M_make_1 : decode b_M_make 1 = .ok (.getfield 26, 3) := by decide +kernel
theorem d_M_make_4 : decode b_M_make 4 = .ok (.invokestatic 47, 3) := by decide +kernel
theorem d_M_make_7 : decode b_M_make 7 = .ok (.istore_n 1, 1) := by decide +kernel
theorem d_M_make_8 : decode b_M_make 8 = .ok (.iload_n 1, 1) := by decide +kernel
theorem d_M_make_9 : decode b_M_make 9 = .ok (.iconst (-1), 1) := by decide +kernel
theorem d_M_make_10 : decode b_M_make 10 = .ok (.if_icmp .ne 7, 3) := by decide +kernel
theorem d_M_make_13 : decode b_M_make 13 = .ok (.iconst (-1), 1) := by decide +kernel
theorem d_M_make_14 : decode b_M_make 14 = .ok (.goto 7, 3) := by decide +kernel
theorem d_M_make_17 : decode b_M_make 17 = .ok (.aload_n 0, 1) := by decide +kernel
theorem d_M_make_18 : decode b_M_make 18 = .ok (.invokevirtual 51, 3) := by decide +kernel
theorem d_M_make_21 : decode b_M_make 21 = .ok (.istore_n 2, 1) := by decide +kernel
theorem d_M_make_22 : decode b_M_make 22 = .ok (.iload_n 2, 1) := by decide +kernel
theorem d_M_make_23 : decode b_M_make 23 = .ok (.iconst (-1), 1) := by decide +kernel
theorem d_M_make_24 : decode b_M_make 24 = .ok (.if_icmp .ne 5, 3) := by decide +kernel
theorem d_M_make_27 : decode b_M_make 27 = .ok (.iconst (-1), 1) := by decide +kernel
theorem d_M_make_28 : decode b_M_make 28 = .ok (.ireturn, 1) := by decide +kernel
theorem d_M_make_29 : decode b_M_make 29 = .ok (.aload_n 0, 1) := by decide +kernel
theorem d_M_make_30 : decode b_M_make 30 = .ok (.getfield 34, 3) := by decide +kernel
theorem d_M_make_33 : decode b_M_make 33 = .ok (.iload_n 1, 1) := by decide +kernel
theorem d_M_make_34 : decode b_M_make 34 = .ok (.aaload, 1) := by decide +kernel
theorem d_M_make_35 : decode b_M_make 35 = .ok (.iconst 0, 1) := by decide +kernel
theorem d_M_make_36 : decode b_M_make 36 = .ok (.invokestatic 55, 3) := by decide +kernel
theorem d_M_make_39 : decode b_M_make 39 = .ok (.aload_n 0, 1) := by decide +kernel
theorem d_M_make_40 : decode b_M_make 40 = .ok (.getfield 29, 3) := by decide +kernel
theorem d_M_make_43 : decode b_M_make 43 = .ok (.iload_n 1, 1) := by decide +kernel
theorem d_M_make_44 : decode b_M_make 44 = .ok (.iconst 1, 1) := by decide +kernel
theorem d_M_make_45 : decode b_M_make 45 = .ok (.iastore, 1) := by decide +kernel
theorem d_M_make_46 : decode b_M_make 46 = .ok (.aload_n 0, 1) := by decide +kernel
theorem d_M_make_47 : decode b_M_make 47 = .ok (.iload_n 1, 1) := by decide +kernel
theorem d_M_make_48 : decode b_M_make 48 = .ok (.iload_n 2, 1) := by decide +kernel
theorem d_M_make_49 : decode b_M_make 49 = .ok (.invokevirtual 61, 3) := by decide +kernel
theorem d_M_make_52 : decode b_M_make 52 = .ok (.iload_n 1, 1) := by decide +kernel
theorem d_M_make_53 : decode b_M_make 53 = .ok (.ireturn, 1) := by decide +kernel
theorem d_M_join_0 : decode b_M_join 0 = .ok (.aload_n 0, 1) := by decide +kernel
theorem d_M_join_1 : decode b_M_join 1 = .ok (.getfield 29, 3) := by decide +kernel
theorem d_M_join_4 : decode b_M_join 4 = .ok (.iload_n 1, 1) := by decide +kernel
theorem d_M_join_5 : decode b_M_join 5 = .ok (.dup2, 1) := by decide +kernel
theorem d_M_join_6 : decode b_M_join 6 = .ok (.iaload, 1) := by decide +kernel
theorem d_M_join_7 : decode b_M_join 7 = .ok (.iconst 1, 1) := by decide +kernel
theorem d_M_join_8 : decode b_M_join 8 = .ok (.iadd, 1) := by decide +kernel
theorem d_M_join_9 : decode b_M_join 9 = .ok (.iastore, 1) := by decide +kernel
theorem d_M_join_10 : decode b_M_join 10 = .ok (.return_, 1) := by decide +kernel
theorem d_M_leave_0 : decode b_M_leave 0 = .ok (.aload_n 0, 1) := by decide +kernel
theorem d_M_leave_1 : decode b_M_leave 1 = .ok (.getfield 29, 3) := by decide +kernel
theorem d_M_leave_4 : decode b_M_leave 4 = .ok (.iload_n 1, 1) := by decide +kernel
theorem d_M_leave_5 : decode b_M_leave 5 = .ok (.dup2, 1) := by decide +kernel
theorem d_M_leave_6 : decode b_M_leave 6 = .ok (.iaload, 1) := by decide +kernel
theorem d_M_leave_7 : decode b_M_leave 7 = .ok (.iconst 1, 1) := by decide +kernel
theorem d_M_leave_8 : decode b_M_leave 8 = .ok (.isub, 1) := by decide +kernel
theorem d_M_leave_9 : decode b_M_leave 9 = .ok (.iastore, 1) := by decide +kernel
theorem d_M_leave_10 : decode b_M_leave 10 = .ok (.aload_n 0, 1) := by decide +kernel
theorem d_M_leave_11 : decode b_M_leave 11 = .ok (.getfield 29, 3) := by decide +kernel
theorem d_M_leave_14 : decode b_M_leave 14 = .ok (.iload_n 1, 1) := by decide +kernel
theorem d_M_leave_15 : decode b_M_leave 15 = .ok (.iaload, 1) := by decide +kernel
theorem d_M_leave_16 : decode b_M_leave 16 = .ok (.ifCond .le 5, 3) := by decide +kernel
theorem d_M_leave_19 : decode b_M_leave 19 = .ok (.iconst 0, 1) := by decide +kernel
theorem d_M_leave_20 : decode b_M_leave 20 = .ok (.ireturn, 1) := by decide +kernel
theorem d_M_leave_21 : decode b_M_leave 21 = .ok (.aload_n 0, 1) := by decide +kernel
theorem d_M_leave_22 : decode b_M_leave 22 = .ok (.aload_n 0, 1) := by decide +kernel
theorem d_M_leave_23 : decode b_M_leave 23 = .ok (.getfield 26, 3) := by decide +kernel
theorem d_M_leave_26 : decode b_M_leave 26 = .ok (.iload_n 1, 1) := by decide +kernel
theorem d_M_leave_27 : decode b_M_leave 27 = .ok (.iaload, 1) := by decide +kernel
theorem d_M_leave_28 : decode b_M_leave 28 = .ok (.invokevirtual 65, 3) := by decide +kernel
theorem d_M_leave_31 : decode b_M_leave 31 = .ok (.aload_n 0, 1) := by decide +kernel
theorem d_M_leave_32 : decode b_M_leave 32 = .ok (.getfield 26, 3) := by decide +kernel
theorem d_M_leave_35 : decode b_M_leave 35 = .ok (.iload_n 1, 1) := by decide +kernel
theorem d_M_leave_36 : decode b_M_leave 36 = .ok (.iconst (-1), 1) := by decide +kernel
theorem d_M_leave_37 : decode b_M_leave 37 = .ok (.iastore, 1) := by decide +kernel
theorem d_M_leave_38 : decode b_M_leave 38 = .ok (.iconst 1, 1) := by decide +kernel
theorem d_M_leave_39 : decode b_M_leave 39 = .ok (.ireturn, 1) := by decide +kernel
theorem d_M_touch_0 : decode b_M_touch 0 = .ok (.aload_n 0, 1) := by decide +kernel
theorem d_M_touch_1 : decode b_M_touch 1 = .ok (.getfield 26, 3) := by decide +kernel
theorem d_M_touch_4 : decode b_M_touch 4 = .ok (.iload_n 1, 1) := by decide +kernel
theorem d_M_touch_5 : decode b_M_touch 5 = .ok (.iaload, 1) := by decide +kernel
theorem d_M_touch_6 : decode b_M_touch 6 = .ok (.bipush 100, 2) := by decide +kernel
theorem d_M_touch_8 : decode b_M_touch 8 = .ok (.if_icmp .lt 8, 3) := by decide +kernel
theorem d_M_touch_11 : decode b_M_touch 11 = .ok (.aload_n 0, 1) := by decide +kernel
theorem d_M_touch_12 : decode b_M_touch 12 = .ok (.iload_n 1, 1) := by decide +kernel
theorem d_M_touch_13 : decode b_M_touch 13 = .ok (.invokevirtual 68, 3) := by decide +kernel
theorem d_M_touch_16 : decode b_M_touch 16 = .ok (.aload_n 0, 1) := by decide +kernel
theorem d_M_touch_17 : decode b_M_touch 17 = .ok (.getfield 22, 3) := by decide +kernel
theorem d_M_touch_20 : decode b_M_touch 20 = .ok (.aload_n 0, 1) := by decide +kernel
theorem d_M_touch_21 : decode b_M_touch 21 = .ok (.getfield 26, 3) := by decide +kernel
theorem d_M_touch_24 : decode b_M_touch 24 = .ok (.iload_n 1, 1) := by decide +kernel
theorem d_M_touch_25 : decode b_M_touch 25 = .ok (.iaload, 1) := by decide +kernel
theorem d_M_touch_26 : decode b_M_touch 26 = .ok (.iconst 1, 1) := by decide +kernel
theorem d_M_touch_27 : decode b_M_touch 27 = .ok (.bastore, 1) := by decide +kernel
theorem d_M_touch_28 : decode b_M_touch 28 = .ok (.return_, 1) := by decide +kernel
theorem d_M_bringIn_0 : decode b_M_bringIn 0 = .ok (.aload_n 0, 1) := by decide +kernel
theorem d_M_bringIn_1 : decode b_M_bringIn 1 = .ok (.aload_n 0, 1) := by decide +kernel
theorem d_M_bringIn_2 : decode b_M_bringIn 2 = .ok (.getfield 26, 3) := by decide +kernel
theorem d_M_bringIn_5 : decode b_M_bringIn 5 = .ok (.iload_n 1, 1) := by decide +kernel
theorem d_M_bringIn_6 : decode b_M_bringIn 6 = .ok (.iaload, 1) := by decide +kernel
theorem d_M_bringIn_7 : decode b_M_bringIn 7 = .ok (.invokevirtual 65, 3) := by decide +kernel
theorem d_M_bringIn_10 : decode b_M_bringIn 10 = .ok (.aload_n 0, 1) := by decide +kernel
theorem d_M_bringIn_11 : decode b_M_bringIn 11 = .ok (.iload_n 1, 1) := by decide +kernel
theorem d_M_bringIn_12 : decode b_M_bringIn 12 = .ok (.aload_n 0, 1) := by decide +kernel
theorem d_M_bringIn_13 : decode b_M_bringIn 13 = .ok (.invokevirtual 51, 3) := by decide +kernel
theorem d_M_bringIn_16 : decode b_M_bringIn 16 = .ok (.invokevirtual 61, 3) := by decide +kernel
theorem d_M_bringIn_19 : decode b_M_bringIn 19 = .ok (.return_, 1) := by decide +kernel
theorem d_M_layIntoFrame_0 : decode b_M_layIntoFrame 0 = .ok (.aload_n 0, 1) := by decide +kernel
theorem d_M_layIntoFrame_1 : decode b_M_layIntoFrame 1 = .ok (.getfield 13, 3) := by decide +kernel
theorem d_M_layIntoFrame_4 : decode b_M_layIntoFrame 4 = .ok (.iload_n 2, 1) := by decide +kernel
theorem d_M_layIntoFrame_5 : decode b_M_layIntoFrame 5 = .ok (.iload_n 1, 1) := by decide +kernel
theorem d_M_layIntoFrame_6 : decode b_M_layIntoFrame 6 = .ok (.iastore, 1) := by decide +kernel
theorem d_M_layIntoFrame_7 : decode b_M_layIntoFrame 7 = .ok (.aload_n 0, 1) := by decide +kernel
theorem d_M_layIntoFrame_8 : decode b_M_layIntoFrame 8 = .ok (.getfield 26, 3) := by decide +kernel
theorem d_M_layIntoFrame_11 : decode b_M_layIntoFrame 11 = .ok (.iload_n 1, 1) := by decide +kernel
theorem d_M_layIntoFrame_12 : decode b_M_layIntoFrame 12 = .ok (.iload_n 2, 1) := by decide +kernel
theorem d_M_layIntoFrame_13 : decode b_M_layIntoFrame 13 = .ok (.iastore, 1) := by decide +kernel
theorem d_M_layIntoFrame_14 : decode b_M_layIntoFrame 14 = .ok (.aload_n 0, 1) := by decide +kernel
theorem d_M_layIntoFrame_15 : decode b_M_layIntoFrame 15 = .ok (.dup, 1) := by decide +kernel
theorem d_M_layIntoFrame_16 : decode b_M_layIntoFrame 16 = .ok (.getfield 71, 3) := by decide +kernel
theorem d_M_layIntoFrame_19 : decode b_M_layIntoFrame 19 = .ok (.iconst 1, 1) := by decide +kernel
theorem d_M_layIntoFrame_20 : decode b_M_layIntoFrame 20 = .ok (.iadd, 1) := by decide +kernel
theorem d_M_layIntoFrame_21 : decode b_M_layIntoFrame 21 = .ok (.putfield 71, 3) := by decide +kernel
theorem d_M_layIntoFrame_24 : decode b_M_layIntoFrame 24 = .ok (.return_, 1) := by decide +kernel
theorem d_M_freePlace_0 : decode b_M_freePlace 0 = .ok (.iload_n 1, 1) := by decide +kernel
theorem d_M_freePlace_1 : decode b_M_freePlace 1 = .ok (.bipush 100, 2) := by decide +kernel
theorem d_M_freePlace_3 : decode b_M_freePlace 3 = .ok (.if_icmp .lt 16, 3) := by decide +kernel
theorem d_M_freePlace_6 : decode b_M_freePlace 6 = .ok (.aload_n 0, 1) := by decide +kernel
theorem d_M_freePlace_7 : decode b_M_freePlace 7 = .ok (.getfield 19, 3) := by decide +kernel
theorem d_M_freePlace_10 : decode b_M_freePlace 10 = .ok (.iload_n 1, 1) := by decide +kernel
theorem d_M_freePlace_11 : decode b_M_freePlace 11 = .ok (.bipush 100, 2) := by decide +kernel
theorem d_M_freePlace_13 : decode b_M_freePlace 13 = .ok (.isub, 1) := by decide +kernel
theorem d_M_freePlace_14 : decode b_M_freePlace 14 = .ok (.iconst (-1), 1) := by decide +kernel
theorem d_M_freePlace_15 : decode b_M_freePlace 15 = .ok (.iastore, 1) := by decide +kernel
theorem d_M_freePlace_16 : decode b_M_freePlace 16 = .ok (.goto 17, 3) := by decide +kernel
theorem d_M_freePlace_19 : decode b_M_freePlace 19 = .ok (.aload_n 0, 1) := by decide +kernel
theorem d_M_freePlace_20 : decode b_M_freePlace 20 = .ok (.getfield 13, 3) := by decide +kernel
theorem d_M_freePlace_23 : decode b_M_freePlace 23 = .ok (.iload_n 1, 1) := by decide +kernel
theorem d_M_freePlace_24 : decode b_M_freePlace 24 = .ok (.iconst (-1), 1) := by decide +kernel
theorem d_M_freePlace_25 : decode b_M_freePlace 25 = .ok (.iastore, 1) := by decide +kernel
theorem d_M_freePlace_26 : decode b_M_freePlace 26 = .ok (.aload_n 0, 1) := by decide +kernel
theorem d_M_freePlace_27 : decode b_M_freePlace 27 = .ok (.getfield 22, 3) := by decide +kernel
theorem d_M_freePlace_30 : decode b_M_freePlace 30 = .ok (.iload_n 1, 1) := by decide +kernel
theorem d_M_freePlace_31 : decode b_M_freePlace 31 = .ok (.iconst 0, 1) := by decide +kernel
theorem d_M_freePlace_32 : decode b_M_freePlace 32 = .ok (.bastore, 1) := by decide +kernel
theorem d_M_freePlace_33 : decode b_M_freePlace 33 = .ok (.return_, 1) := by decide +kernel
theorem d_M_getFrame_0 : decode b_M_getFrame 0 = .ok (.aload_n 0, 1) := by decide +kernel
theorem d_M_getFrame_1 : decode b_M_getFrame 1 = .ok (.getfield 13, 3) := by decide +kernel
theorem d_M_getFrame_4 : decode b_M_getFrame 4 = .ok (.invokestatic 47, 3) := by decide +kernel
theorem d_M_getFrame_7 : decode b_M_getFrame 7 = .ok (.istore_n 1, 1) := by decide +kernel
theorem d_M_getFrame_8 : decode b_M_getFrame 8 = .ok (.iload_n 1, 1) := by decide +kernel
theorem d_M_getFrame_9 : decode b_M_getFrame 9 = .ok (.iconst (-1), 1) := by decide +kernel
theorem d_M_getFrame_10 : decode b_M_getFrame 10 = .ok (.if_icmp .eq 5, 3) := by decide +kernel
theorem d_M_getFrame_13 : decode b_M_getFrame 13 = .ok (.iload_n 1, 1) := by decide +kernel
theorem d_M_getFrame_14 : decode b_M_getFrame 14 = .ok (.ireturn, 1) := by decide +kernel
theorem d_M_getFrame_15 : decode b_M_getFrame 15 = .ok (.aload_n 0, 1) := by decide +kernel
theorem d_M_getFrame_16 : decode b_M_getFrame 16 = .ok (.getfield 19, 3) := by decide +kernel
theorem d_M_getFrame_19 : decode b_M_getFrame 19 = .ok (.invokestatic 47, 3) := by decide +kernel
theorem d_M_getFrame_22 : decode b_M_getFrame 22 = .ok (.istore_n 2, 1) := by decide +kernel
theorem d_M_getFrame_23 : decode b_M_getFrame 23 = .ok (.iload_n 2, 1) := by decide +kernel
theorem d_M_getFrame_24 : decode b_M_getFrame 24 = .ok (.iconst (-1), 1) := by decide +kernel
theorem d_M_getFrame_25 : decode b_M_getFrame 25 = .ok (.if_icmp .ne 7, 3) := by decide +kernel
theorem d_M_getFrame_28 : decode b_M_getFrame 28 = .ok (.iconst (-1), 1) := by decide +kernel
theorem d_M_getFrame_29 : decode b_M_getFrame 29 = .ok (.goto 8, 3) := by decide +kernel
theorem d_M_getFrame_32 : decode b_M_getFrame 32 = .ok (.aload_n 0, 1) := by decide +kernel
theorem d_M_getFrame_33 : decode b_M_getFrame 33 = .ok (.iload_n 2, 1) := by decide +kernel
theorem d_M_getFrame_34 : decode b_M_getFrame 34 = .ok (.invokevirtual 75, 3) := by decide +kernel
theorem d_M_getFrame_37 : decode b_M_getFrame 37 = .ok (.ireturn, 1) := by decide +kernel
theorem d_M_evictInto_0 : decode b_M_evictInto 0 = .ok (.iconst 0, 1) := by decide +kernel
theorem d_M_evictInto_1 : decode b_M_evictInto 1 = .ok (.istore_n 2, 1) := by decide +kernel
theorem d_M_evictInto_2 : decode b_M_evictInto 2 = .ok (.iload_n 2, 1) := by decide +kernel
theorem d_M_evictInto_3 : decode b_M_evictInto 3 = .ok (.aload_n 0, 1) := by decide +kernel
theorem d_M_evictInto_4 : decode b_M_evictInto 4 = .ok (.getfield 22, 3) := by decide +kernel
theorem d_M_evictInto_7 : decode b_M_evictInto 7 = .ok (.arraylength, 1) := by decide +kernel
theorem d_M_evictInto_8 : decode b_M_evictInto 8 = .ok (.if_icmp .ge 35, 3) := by decide +kernel
theorem d_M_evictInto_11 : decode b_M_evictInto 11 = .ok (.aload_n 0, 1) := by decide +kernel
theorem d_M_evictInto_12 : decode b_M_evictInto 12 = .ok (.getfield 22, 3) := by decide +kernel
theorem d_M_evictInto_15 : decode b_M_evictInto 15 = .ok (.aload_n 0, 1) := by decide +kernel
theorem d_M_evictInto_16 : decode b_M_evictInto 16 = .ok (.getfield 79, 3) := by decide +kernel
theorem d_M_evictInto_19 : decode b_M_evictInto 19 = .ok (.baload, 1) := by decide +kernel
theorem d_M_evictInto_20 : decode b_M_evictInto 20 = .ok (.ifCond .eq 23, 3) := by decide +kernel
theorem d_M_evictInto_23 : decode b_M_evictInto 23 = .ok (.aload_n 0, 1) := by decide +kernel
theorem d_M_evictInto_24 : decode b_M_evictInto 24 = .ok (.getfield 22, 3) := by decide +kernel
theorem d_M_evictInto_27 : decode b_M_evictInto 27 = .ok (.aload_n 0, 1) := by decide +kernel
theorem d_M_evictInto_28 : decode b_M_evictInto 28 = .ok (.getfield 79, 3) := by decide +kernel
theorem d_M_evictInto_31 : decode b_M_evictInto 31 = .ok (.iconst 0, 1) := by decide +kernel
theorem d_M_evictInto_32 : decode b_M_evictInto 32 = .ok (.bastore, 1) := by decide +kernel
theorem d_M_evictInto_33 : decode b_M_evictInto 33 = .ok (.aload_n 0, 1) := by decide +kernel
theorem d_M_evictInto_34 : decode b_M_evictInto 34 = .ok (.invokevirtual 82, 3) := by decide +kernel
theorem d_M_evictInto_37 : decode b_M_evictInto 37 = .ok (.iinc 2 1, 3) := by decide +kernel
theorem d_M_evictInto_40 : decode b_M_evictInto 40 = .ok (.goto (-38), 3) := by decide +kernel
theorem d_M_evictInto_43 : decode b_M_evictInto 43 = .ok (.aload_n 0, 1) := by decide +kernel
theorem d_M_evictInto_44 : decode b_M_evictInto 44 = .ok (.getfield 79, 3) := by decide +kernel
theorem d_M_evictInto_47 : decode b_M_evictInto 47 = .ok (.istore_n 2, 1) := by decide +kernel
theorem d_M_evictInto_48 : decode b_M_evictInto 48 = .ok (.aload_n 0, 1) := by decide +kernel
theorem d_M_evictInto_49 : decode b_M_evictInto 49 = .ok (.getfield 13, 3) := by decide +kernel
theorem d_M_evictInto_52 : decode b_M_evictInto 52 = .ok (.iload_n 2, 1) := by decide +kernel
theorem d_M_evictInto_53 : decode b_M_evictInto 53 = .ok (.iaload, 1) := by decide +kernel
theorem d_M_evictInto_54 : decode b_M_evictInto 54 = .ok (.istore_n 3, 1) := by decide +kernel
theorem d_M_evictInto_55 : decode b_M_evictInto 55 = .ok (.aload_n 0, 1) := by decide +kernel
theorem d_M_evictInto_56 : decode b_M_evictInto 56 = .ok (.getfield 19, 3) := by decide +kernel
theorem d_M_evictInto_59 : decode b_M_evictInto 59 = .ok (.iload_n 1, 1) := by decide +kernel
theorem d_M_evictInto_60 : decode b_M_evictInto 60 = .ok (.iload_n 3, 1) := by decide +kernel
theorem d_M_evictInto_61 : decode b_M_evictInto 61 = .ok (.iastore, 1) := by decide +kernel
theorem d_M_evictInto_62 : decode b_M_evictInto 62 = .ok (.aload_n 0, 1) := by decide +kernel
theorem d_M_evictInto_63 : decode b_M_evictInto 63 = .ok (.getfield 26, 3) := by decide +kernel
theorem d_M_evictInto_66 : decode b_M_evictInto 66 = .ok (.iload_n 3, 1) := by decide +kernel
theorem d_M_evictInto_67 : decode b_M_evictInto 67 = .ok (.bipush 100, 2) := by decide +kernel
theorem d_M_evictInto_69 : decode b_M_evictInto 69 = .ok (.iload_n 1, 1) := by decide +kernel
theorem d_M_evictInto_70 : decode b_M_evictInto 70 = .ok (.iadd, 1) := by decide +kernel
theorem d_M_evictInto_71 : decode b_M_evictInto 71 = .ok (.iastore, 1) := by decide +kernel
theorem d_M_evictInto_72 : decode b_M_evictInto 72 = .ok (.aload_n 0, 1) := by decide +kernel
theorem d_M_evictInto_73 : decode b_M_evictInto 73 = .ok (.getfield 13, 3) := by decide +kernel
theorem d_M_evictInto_76 : decode b_M_evictInto 76 = .ok (.iload_n 2, 1) := by decide +kernel
theorem d_M_evictInto_77 : decode b_M_evictInto 77 = .ok (.iconst (-1), 1) := by decide +kernel
theorem d_M_evictInto_78 : decode b_M_evictInto 78 = .ok (.iastore, 1) := by decide +kernel
theorem d_M_evictInto_79 : decode b_M_evictInto 79 = .ok (.aload_n 0, 1) := by decide +kernel
theorem d_M_evictInto_80 : decode b_M_evictInto 80 = .ok (.dup, 1) := by decide +kernel
theorem d_M_evictInto_81 : decode b_M_evictInto 81 = .ok (.getfield 85, 3) := by decide +kernel
theorem d_M_evictInto_84 : decode b_M_evictInto 84 = .ok (.iconst 1, 1) := by decide +kernel
theorem d_M_evictInto_85 : decode b_M_evictInto 85 = .ok (.iadd, 1) := by decide +kernel
theorem d_M_evictInto_86 : decode b_M_evictInto 86 = .ok (.putfield 85, 3) := by decide +kernel
theorem d_M_evictInto_89 : decode b_M_evictInto 89 = .ok (.aload_n 0, 1) := by decide +kernel
theorem d_M_evictInto_90 : decode b_M_evictInto 90 = .ok (.invokevirtual 82, 3) := by decide +kernel
theorem d_M_evictInto_93 : decode b_M_evictInto 93 = .ok (.iload_n 2, 1) := by decide +kernel
theorem d_M_evictInto_94 : decode b_M_evictInto 94 = .ok (.ireturn, 1) := by decide +kernel
theorem d_M_moveHand_0 : decode b_M_moveHand 0 = .ok (.aload_n 0, 1) := by decide +kernel
theorem d_M_moveHand_1 : decode b_M_moveHand 1 = .ok (.aload_n 0, 1) := by decide +kernel
theorem d_M_moveHand_2 : decode b_M_moveHand 2 = .ok (.getfield 79, 3) := by decide +kernel
theorem d_M_moveHand_5 : decode b_M_moveHand 5 = .ok (.iconst 1, 1) := by decide +kernel
theorem d_M_moveHand_6 : decode b_M_moveHand 6 = .ok (.iadd, 1) := by decide +kernel
theorem d_M_moveHand_7 : decode b_M_moveHand 7 = .ok (.aload_n 0, 1) := by decide +kernel
theorem d_M_moveHand_8 : decode b_M_moveHand 8 = .ok (.getfield 22, 3) := by decide +kernel
theorem d_M_moveHand_11 : decode b_M_moveHand 11 = .ok (.arraylength, 1) := by decide +kernel
theorem d_M_moveHand_12 : decode b_M_moveHand 12 = .ok (.if_icmp .ge 12, 3) := by decide +kernel
theorem d_M_moveHand_15 : decode b_M_moveHand 15 = .ok (.aload_n 0, 1) := by decide +kernel
theorem d_M_moveHand_16 : decode b_M_moveHand 16 = .ok (.getfield 79, 3) := by decide +kernel
theorem d_M_moveHand_19 : decode b_M_moveHand 19 = .ok (.iconst 1, 1) := by decide +kernel
theorem d_M_moveHand_20 : decode b_M_moveHand 20 = .ok (.iadd, 1) := by decide +kernel
theorem d_M_moveHand_21 : decode b_M_moveHand 21 = .ok (.goto 4, 3) := by decide +kernel
theorem d_M_moveHand_24 : decode b_M_moveHand 24 = .ok (.iconst 0, 1) := by decide +kernel
theorem d_M_moveHand_25 : decode b_M_moveHand 25 = .ok (.putfield 79, 3) := by decide +kernel
theorem d_M_moveHand_28 : decode b_M_moveHand 28 = .ok (.return_, 1) := by decide +kernel
theorem d_A_fill_0 : decode b_A_fill 0 = .ok (.iconst 0, 1) := by decide +kernel
theorem d_A_fill_1 : decode b_A_fill 1 = .ok (.istore_n 2, 1) := by decide +kernel
theorem d_A_fill_2 : decode b_A_fill 2 = .ok (.aload_n 0, 1) := by decide +kernel
theorem d_A_fill_3 : decode b_A_fill 3 = .ok (.arraylength, 1) := by decide +kernel
theorem d_A_fill_4 : decode b_A_fill 4 = .ok (.istore_n 3, 1) := by decide +kernel
theorem d_A_fill_5 : decode b_A_fill 5 = .ok (.iload_n 2, 1) := by decide +kernel
theorem d_A_fill_6 : decode b_A_fill 6 = .ok (.iload_n 3, 1) := by decide +kernel
theorem d_A_fill_7 : decode b_A_fill 7 = .ok (.if_icmp .ge 13, 3) := by decide +kernel
theorem d_A_fill_10 : decode b_A_fill 10 = .ok (.aload_n 0, 1) := by decide +kernel
theorem d_A_fill_11 : decode b_A_fill 11 = .ok (.iload_n 2, 1) := by decide +kernel
theorem d_A_fill_12 : decode b_A_fill 12 = .ok (.iload_n 1, 1) := by decide +kernel
theorem d_A_fill_13 : decode b_A_fill 13 = .ok (.iastore, 1) := by decide +kernel
theorem d_A_fill_14 : decode b_A_fill 14 = .ok (.iinc 2 1, 3) := by decide +kernel
theorem d_A_fill_17 : decode b_A_fill 17 = .ok (.goto (-12), 3) := by decide +kernel
theorem d_A_fill_20 : decode b_A_fill 20 = .ok (.return_, 1) := by decide +kernel
