theorem d_Cells_init_0 : decode c_Cells_init 0 = .ok (.aload_n 0, 1) := by decide +kernel
theorem d_Cells_init_1 : decode c_Cells_init 1 = .ok (.invokespecial 3, 3) := by decide +kernel
theorem d_Cells_init_4 : decode c_Cells_init 4 = .ok (.aload_n 0, 1) := by decide +kernel
theorem d_Cells_init_5 : decode c_Cells_init 5 = .ok (.iconst 0, 1) := by decide +kernel
theorem d_Cells_init_6 : decode c_Cells_init 6 = .ok (.iload_n 1, 1) := by decide +kernel
theorem d_Cells_init_7 : decode c_Cells_init 7 = .ok (.invokestatic 9, 3) := by decide +kernel
theorem d_Cells_init_10 : decode c_Cells_init 10 = .ok (.newarray .int, 2) := by decide +kernel
theorem d_Cells_init_12 : decode c_Cells_init 12 = .ok (.putfield 15, 3) := by decide +kernel
theorem d_Cells_init_15 : decode c_Cells_init 15 = .ok (.iconst 0, 1) := by decide +kernel
theorem d_Cells_init_16 : decode c_Cells_init 16 = .ok (.istore_n 2, 1) := by decide +kernel
theorem d_Cells_init_17 : decode c_Cells_init 17 = .ok (.iload_n 2, 1) := by decide +kernel
theorem d_Cells_init_18 : decode c_Cells_init 18 = .ok (.aload_n 0, 1) := by decide +kernel
theorem d_Cells_init_19 : decode c_Cells_init 19 = .ok (.getfield 15, 3) := by decide +kernel
theorem d_Cells_init_22 : decode c_Cells_init 22 = .ok (.arraylength, 1) := by decide +kernel
theorem d_Cells_init_23 : decode c_Cells_init 23 = .ok (.if_icmp .ge 16, 3) := by decide +kernel
theorem d_Cells_init_26 : decode c_Cells_init 26 = .ok (.aload_n 0, 1) := by decide +kernel
theorem d_Cells_init_27 : decode c_Cells_init 27 = .ok (.getfield 15, 3) := by decide +kernel
theorem d_Cells_init_30 : decode c_Cells_init 30 = .ok (.iload_n 2, 1) := by decide +kernel
theorem d_Cells_init_31 : decode c_Cells_init 31 = .ok (.iconst (-1), 1) := by decide +kernel
theorem d_Cells_init_32 : decode c_Cells_init 32 = .ok (.iastore, 1) := by decide +kernel
theorem d_Cells_init_33 : decode c_Cells_init 33 = .ok (.iinc 2 1, 3) := by decide +kernel
theorem d_Cells_init_36 : decode c_Cells_init 36 = .ok (.goto (-19), 3) := by decide +kernel
theorem d_Cells_init_39 : decode c_Cells_init 39 = .ok (.return_, 1) := by decide +kernel
theorem d_Cells_at_0 : decode c_Cells_at 0 = .ok (.iload_n 1, 1) := by decide +kernel
theorem d_Cells_at_1 : decode c_Cells_at 1 = .ok (.ifCond .lt 21, 3) := by decide +kernel
theorem d_Cells_at_4 : decode c_Cells_at 4 = .ok (.iload_n 1, 1) := by decide +kernel
theorem d_Cells_at_5 : decode c_Cells_at 5 = .ok (.aload_n 0, 1) := by decide +kernel
theorem d_Cells_at_6 : decode c_Cells_at 6 = .ok (.getfield 15, 3) := by decide +kernel
theorem d_Cells_at_9 : decode c_Cells_at 9 = .ok (.arraylength, 1) := by decide +kernel
theorem d_Cells_at_10 : decode c_Cells_at 10 = .ok (.if_icmp .ge 12, 3) := by decide +kernel
theorem d_Cells_at_13 : decode c_Cells_at 13 = .ok (.aload_n 0, 1) := by decide +kernel
theorem d_Cells_at_14 : decode c_Cells_at 14 = .ok (.getfield 15, 3) := by decide +kernel
theorem d_Cells_at_17 : decode c_Cells_at 17 = .ok (.iload_n 1, 1) := by decide +kernel
theorem d_Cells_at_18 : decode c_Cells_at 18 = .ok (.iaload, 1) := by decide +kernel
theorem d_Cells_at_19 : decode c_Cells_at 19 = .ok (.goto 4, 3) := by decide +kernel
theorem d_Cells_at_22 : decode c_Cells_at 22 = .ok (.iconst (-1), 1) := by decide +kernel
theorem d_Cells_at_23 : decode c_Cells_at 23 = .ok (.ireturn, 1) := by decide +kernel
theorem d_Cells_put_0 : decode c_Cells_put 0 = .ok (.iload_n 1, 1) := by decide +kernel
theorem d_Cells_put_1 : decode c_Cells_put 1 = .ok (.ifCond .lt 19, 3) := by decide +kernel
theorem d_Cells_put_4 : decode c_Cells_put 4 = .ok (.iload_n 1, 1) := by decide +kernel
theorem d_Cells_put_5 : decode c_Cells_put 5 = .ok (.aload_n 0, 1) := by decide +kernel
theorem d_Cells_put_6 : decode c_Cells_put 6 = .ok (.getfield 15, 3) := by decide +kernel
theorem d_Cells_put_9 : decode c_Cells_put 9 = .ok (.arraylength, 1) := by decide +kernel
theorem d_Cells_put_10 : decode c_Cells_put 10 = .ok (.if_icmp .ge 10, 3) := by decide +kernel
theorem d_Cells_put_13 : decode c_Cells_put 13 = .ok (.aload_n 0, 1) := by decide +kernel
theorem d_Cells_put_14 : decode c_Cells_put 14 = .ok (.getfield 15, 3) := by decide +kernel
theorem d_Cells_put_17 : decode c_Cells_put 17 = .ok (.iload_n 1, 1) := by decide +kernel
theorem d_Cells_put_18 : decode c_Cells_put 18 = .ok (.iload_n 2, 1) := by decide +kernel
theorem d_Cells_put_19 : decode c_Cells_put 19 = .ok (.iastore, 1) := by decide +kernel
theorem d_Cells_put_20 : decode c_Cells_put 20 = .ok (.return_, 1) := by decide +kernel
theorem d_Cells_replace_0 : decode c_Cells_replace 0 = .ok (.iconst 0, 1) := by decide +kernel
theorem d_Cells_replace_1 : decode c_Cells_replace 1 = .ok (.istore_n 3, 1) := by decide +kernel
theorem d_Cells_replace_2 : decode c_Cells_replace 2 = .ok (.iload_n 3, 1) := by decide +kernel
theorem d_Cells_replace_3 : decode c_Cells_replace 3 = .ok (.aload_n 0, 1) := by decide +kernel
theorem d_Cells_replace_4 : decode c_Cells_replace 4 = .ok (.getfield 15, 3) := by decide +kernel
theorem d_Cells_replace_7 : decode c_Cells_replace 7 = .ok (.arraylength, 1) := by decide +kernel
theorem d_Cells_replace_8 : decode c_Cells_replace 8 = .ok (.if_icmp .ge 26, 3) := by decide +kernel
theorem d_Cells_replace_11 : decode c_Cells_replace 11 = .ok (.aload_n 0, 1) := by decide +kernel
theorem d_Cells_replace_12 : decode c_Cells_replace 12 = .ok (.getfield 15, 3) := by decide +kernel
theorem d_Cells_replace_15 : decode c_Cells_replace 15 = .ok (.iload_n 3, 1) := by decide +kernel
theorem d_Cells_replace_16 : decode c_Cells_replace 16 = .ok (.iaload, 1) := by decide +kernel
theorem d_Cells_replace_17 : decode c_Cells_replace 17 = .ok (.iload_n 1, 1) := by decide +kernel
theorem d_Cells_replace_18 : decode c_Cells_replace 18 = .ok (.if_icmp .ne 10, 3) := by decide +kernel
theorem d_Cells_replace_21 : decode c_Cells_replace 21 = .ok (.aload_n 0, 1) := by decide +kernel
theorem d_Cells_replace_22 : decode c_Cells_replace 22 = .ok (.getfield 15, 3) := by decide +kernel
theorem d_Cells_replace_25 : decode c_Cells_replace 25 = .ok (.iload_n 3, 1) := by decide +kernel
theorem d_Cells_replace_26 : decode c_Cells_replace 26 = .ok (.iload_n 2, 1) := by decide +kernel
theorem d_Cells_replace_27 : decode c_Cells_replace 27 = .ok (.iastore, 1) := by decide +kernel
theorem d_Cells_replace_28 : decode c_Cells_replace 28 = .ok (.iinc 3 1, 3) := by decide +kernel
theorem d_Cells_replace_31 : decode c_Cells_replace 31 = .ok (.goto (-29), 3) := by decide +kernel
theorem d_Cells_replace_34 : decode c_Cells_replace 34 = .ok (.return_, 1) := by decide +kernel
theorem d_Rows_init_0 : decode c_Rows_init 0 = .ok (.aload_n 0, 1) := by decide +kernel
theorem d_Rows_init_1 : decode c_Rows_init 1 = .ok (.invokespecial 3, 3) := by decide +kernel
theorem d_Rows_init_4 : decode c_Rows_init 4 = .ok (.aload_n 0, 1) := by decide +kernel
theorem d_Rows_init_5 : decode c_Rows_init 5 = .ok (.iconst 0, 1) := by decide +kernel
theorem d_Rows_init_6 : decode c_Rows_init 6 = .ok (.iload_n 1, 1) := by decide +kernel
theorem d_Rows_init_7 : decode c_Rows_init 7 = .ok (.invokestatic 9, 3) := by decide +kernel
theorem d_Rows_init_10 : decode c_Rows_init 10 = .ok (.bipush 48, 2) := by decide +kernel
theorem d_Rows_init_12 : decode c_Rows_init 12 = .ok (.invokestatic 15, 3) := by decide +kernel
theorem d_Rows_init_15 : decode c_Rows_init 15 = .ok (.newarray .long, 2) := by decide +kernel
theorem d_Rows_init_17 : decode c_Rows_init 17 = .ok (.putfield 18, 3) := by decide +kernel
theorem d_Rows_init_20 : decode c_Rows_init 20 = .ok (.return_, 1) := by decide +kernel
theorem d_Rows_isPlace_0 : decode c_Rows_isPlace 0 = .ok (.iload_n 1, 1) := by decide +kernel
theorem d_Rows_isPlace_1 : decode c_Rows_isPlace 1 = .ok (.ifCond .lt 16, 3) := by decide +kernel
theorem d_Rows_isPlace_4 : decode c_Rows_isPlace 4 = .ok (.iload_n 1, 1) := by decide +kernel
theorem d_Rows_isPlace_5 : decode c_Rows_isPlace 5 = .ok (.aload_n 0, 1) := by decide +kernel
theorem d_Rows_isPlace_6 : decode c_Rows_isPlace 6 = .ok (.getfield 18, 3) := by decide +kernel
theorem d_Rows_isPlace_9 : decode c_Rows_isPlace 9 = .ok (.arraylength, 1) := by decide +kernel
theorem d_Rows_isPlace_10 : decode c_Rows_isPlace 10 = .ok (.if_icmp .ge 7, 3) := by decide +kernel
theorem d_Rows_isPlace_13 : decode c_Rows_isPlace 13 = .ok (.iconst 1, 1) := by decide +kernel
theorem d_Rows_isPlace_14 : decode c_Rows_isPlace 14 = .ok (.goto 4, 3) := by decide +kernel
theorem d_Rows_isPlace_17 : decode c_Rows_isPlace 17 = .ok (.iconst 0, 1) := by decide +kernel
theorem d_Rows_isPlace_18 : decode c_Rows_isPlace 18 = .ok (.ireturn, 1) := by decide +kernel
theorem d_Rows_row_0 : decode c_Rows_row 0 = .ok (.aload_n 0, 1) := by decide +kernel
theorem d_Rows_row_1 : decode c_Rows_row 1 = .ok (.iload_n 1, 1) := by decide +kernel
theorem d_Rows_row_2 : decode c_Rows_row 2 = .ok (.invokevirtual 24, 3) := by decide +kernel
theorem d_Rows_row_5 : decode c_Rows_row 5 = .ok (.ifCond .eq 12, 3) := by decide +kernel
theorem d_Rows_row_8 : decode c_Rows_row 8 = .ok (.aload_n 0, 1) := by decide +kernel
theorem d_Rows_row_9 : decode c_Rows_row 9 = .ok (.getfield 18, 3) := by decide +kernel
theorem d_Rows_row_12 : decode c_Rows_row 12 = .ok (.iload_n 1, 1) := by decide +kernel
theorem d_Rows_row_13 : decode c_Rows_row 13 = .ok (.laload, 1) := by decide +kernel
theorem d_Rows_row_14 : decode c_Rows_row 14 = .ok (.goto 4, 3) := by decide +kernel
theorem d_Rows_row_17 : decode c_Rows_row 17 = .ok (.lconst 0, 1) := by decide +kernel
theorem d_Rows_row_18 : decode c_Rows_row 18 = .ok (.lreturn, 1) := by decide +kernel
theorem d_Rows_put_0 : decode c_Rows_put 0 = .ok (.aload_n 0, 1) := by decide +kernel
theorem d_Rows_put_1 : decode c_Rows_put 1 = .ok (.iload_n 1, 1) := by decide +kernel
theorem d_Rows_put_2 : decode c_Rows_put 2 = .ok (.invokevirtual 24, 3) := by decide +kernel
theorem d_Rows_put_5 : decode c_Rows_put 5 = .ok (.ifCond .eq 10, 3) := by decide +kernel
theorem d_Rows_put_8 : decode c_Rows_put 8 = .ok (.aload_n 0, 1) := by decide +kernel
theorem d_Rows_put_9 : decode c_Rows_put 9 = .ok (.getfield 18, 3) := by decide +kernel
theorem d_Rows_put_12 : decode c_Rows_put 12 = .ok (.iload_n 1, 1) := by decide +kernel
theorem d_Rows_put_13 : decode c_Rows_put 13 = .ok (.lload_n 2, 1) := by decide +kernel
theorem d_Rows_put_14 : decode c_Rows_put 14 = .ok (.lastore, 1) := by decide +kernel
theorem d_Rows_put_15 : decode c_Rows_put 15 = .ok (.return_, 1) := by decide +kernel
theorem d_Rows_has_0 : decode c_Rows_has 0 = .ok (.aload_n 0, 1) := by decide +kernel
theorem d_Rows_has_1 : decode c_Rows_has 1 = .ok (.iload_n 1, 1) := by decide +kernel
theorem d_Rows_has_2 : decode c_Rows_has 2 = .ok (.invokevirtual 24, 3) := by decide +kernel
theorem d_Rows_has_5 : decode c_Rows_has 5 = .ok (.ifCond .eq 30, 3) := by decide +kernel
theorem d_Rows_has_8 : decode c_Rows_has 8 = .ok (.aload_n 0, 1) := by decide +kernel
theorem d_Rows_has_9 : decode c_Rows_has 9 = .ok (.iload_n 2, 1) := by decide +kernel
theorem d_Rows_has_10 : decode c_Rows_has 10 = .ok (.invokevirtual 24, 3) := by decide +kernel
theorem d_Rows_has_13 : decode c_Rows_has 13 = .ok (.ifCond .eq 22, 3) := by decide +kernel
theorem d_Rows_has_16 : decode c_Rows_has 16 = .ok (.aload_n 0, 1) := by decide +kernel
theorem d_Rows_has_17 : decode c_Rows_has 17 = .ok (.getfield 18, 3) := by decide +kernel
theorem d_Rows_has_20 : decode c_Rows_has 20 = .ok (.iload_n 1, 1) := by decide +kernel
theorem d_Rows_has_21 : decode c_Rows_has 21 = .ok (.laload, 1) := by decide +kernel
theorem d_Rows_has_22 : decode c_Rows_has 22 = .ok (.iload_n 2, 1) := by decide +kernel
theorem d_Rows_has_23 : decode c_Rows_has 23 = .ok (.lushr, 1) := by decide +kernel
theorem d_Rows_has_24 : decode c_Rows_has 24 = .ok (.lconst 1, 1) := by decide +kernel
theorem d_Rows_has_25 : decode c_Rows_has 25 = .ok (.land, 1) := by decide +kernel
theorem d_Rows_has_26 : decode c_Rows_has 26 = .ok (.lconst 0, 1) := by decide +kernel
theorem d_Rows_has_27 : decode c_Rows_has 27 = .ok (.lcmp, 1) := by decide +kernel
theorem d_Rows_has_28 : decode c_Rows_has 28 = .ok (.ifCond .eq 7, 3) := by decide +kernel
theorem d_Rows_has_31 : decode c_Rows_has 31 = .ok (.iconst 1, 1) := by decide +kernel
theorem d_Rows_has_32 : decode c_Rows_has 32 = .ok (.goto 4, 3) := by decide +kernel
theorem d_Rows_has_35 : decode c_Rows_has 35 = .ok (.iconst 0, 1) := by decide +kernel
theorem d_Rows_has_36 : decode c_Rows_has 36 = .ok (.ireturn, 1) := by decide +kernel
theorem d_Rows_mark_0 : decode c_Rows_mark 0 = .ok (.aload_n 0, 1) := by decide +kernel
theorem d_Rows_mark_1 : decode c_Rows_mark 1 = .ok (.iload_n 1, 1) := by decide +kernel
theorem d_Rows_mark_2 : decode c_Rows_mark 2 = .ok (.invokevirtual 24, 3) := by decide +kernel
theorem d_Rows_mark_5 : decode c_Rows_mark 5 = .ok (.ifCond .eq 23, 3) := by decide +kernel
theorem d_Rows_mark_8 : decode c_Rows_mark 8 = .ok (.aload_n 0, 1) := by decide +kernel
theorem d_Rows_mark_9 : decode c_Rows_mark 9 = .ok (.iload_n 2, 1) := by decide +kernel
theorem d_Rows_mark_10 : decode c_Rows_mark 10 = .ok (.invokevirtual 24, 3) := by decide +kernel
theorem d_Rows_mark_13 : decode c_Rows_mark 13 = .ok (.ifCond .eq 15, 3) := by decide +kernel
theorem d_Rows_mark_16 : decode c_Rows_mark 16 = .ok (.aload_n 0, 1) := by decide +kernel
theorem d_Rows_mark_17 : decode c_Rows_mark 17 = .ok (.getfield 18, 3) := by decide +kernel
theorem d_Rows_mark_20 : decode c_Rows_mark 20 = .ok (.iload_n 1, 1) := by decide +kernel
theorem d_Rows_mark_21 : decode c_Rows_mark 21 = .ok (.dup2, 1) := by decide +kernel
theorem d_Rows_mark_22 : decode c_Rows_mark 22 = .ok (.laload, 1) := by decide +kernel
theorem d_Rows_mark_23 : decode c_Rows_mark 23 = .ok (.lconst 1, 1) := by decide +kernel
theorem d_Rows_mark_24 : decode c_Rows_mark 24 = .ok (.iload_n 2, 1) := by decide +kernel
theorem d_Rows_mark_25 : decode c_Rows_mark 25 = .ok (.lshl, 1) := by decide +kernel
theorem d_Rows_mark_26 : decode c_Rows_mark 26 = .ok (.lor, 1) := by decide +kernel
theorem d_Rows_mark_27 : decode c_Rows_mark 27 = .ok (.lastore, 1) := by decide +kernel
theorem d_Rows_mark_28 : decode c_Rows_mark 28 = .ok (.return_, 1) := by decide +kernel
theorem d_Rows_clear_0 : decode c_Rows_clear 0 = .ok (.iconst 0, 1) := by decide +kernel
theorem d_Rows_clear_1 : decode c_Rows_clear 1 = .ok (.istore_n 1, 1) := by decide +kernel
theorem d_Rows_clear_2 : decode c_Rows_clear 2 = .ok (.iload_n 1, 1) := by decide +kernel
theorem d_Rows_clear_3 : decode c_Rows_clear 3 = .ok (.aload_n 0, 1) := by decide +kernel
theorem d_Rows_clear_4 : decode c_Rows_clear 4 = .ok (.getfield 18, 3) := by decide +kernel
theorem d_Rows_clear_7 : decode c_Rows_clear 7 = .ok (.arraylength, 1) := by decide +kernel
theorem d_Rows_clear_8 : decode c_Rows_clear 8 = .ok (.if_icmp .ge 16, 3) := by decide +kernel
theorem d_Rows_clear_11 : decode c_Rows_clear 11 = .ok (.aload_n 0, 1) := by decide +kernel
theorem d_Rows_clear_12 : decode c_Rows_clear 12 = .ok (.getfield 18, 3) := by decide +kernel
theorem d_Rows_clear_15 : decode c_Rows_clear 15 = .ok (.iload_n 1, 1) := by decide +kernel
theorem d_Rows_clear_16 : decode c_Rows_clear 16 = .ok (.lconst 0, 1) := by decide +kernel
theorem d_Rows_clear_17 : decode c_Rows_clear 17 = .ok (.lastore, 1) := by decide +kernel
theorem d_Rows_clear_18 : decode c_Rows_clear 18 = .ok (.iinc 1 1, 3) := by decide +kernel
theorem d_Rows_clear_21 : decode c_Rows_clear 21 = .ok (.goto (-19), 3) := by decide +kernel
theorem d_Rows_clear_24 : decode c_Rows_clear 24 = .ok (.return_, 1) := by decide +kernel
theorem d_Rows_above_0 : decode c_Rows_above 0 = .ok (.lconst 0, 1) := by decide +kernel
theorem d_Rows_above_1 : decode c_Rows_above 1 = .ok (.lstore_n 3, 1) := by decide +kernel
theorem d_Rows_above_2 : decode c_Rows_above 2 = .ok (.iconst 0, 1) := by decide +kernel
theorem d_Rows_above_3 : decode c_Rows_above 3 = .ok (.istore 5, 2) := by decide +kernel
theorem d_Rows_above_5 : decode c_Rows_above 5 = .ok (.iload 5, 2) := by decide +kernel
theorem d_Rows_above_7 : decode c_Rows_above 7 = .ok (.aload_n 0, 1) := by decide +kernel
theorem d_Rows_above_8 : decode c_Rows_above 8 = .ok (.getfield 18, 3) := by decide +kernel
theorem d_Rows_above_11 : decode c_Rows_above 11 = .ok (.arraylength, 1) := by decide +kernel
theorem d_Rows_above_12 : decode c_Rows_above 12 = .ok (.if_icmp .ge 30, 3) := by decide +kernel
theorem d_Rows_above_15 : decode c_Rows_above 15 = .ok (.aload_n 0, 1) := by decide +kernel
theorem d_Rows_above_16 : decode c_Rows_above 16 = .ok (.getfield 18, 3) := by decide +kernel
theorem d_Rows_above_19 : decode c_Rows_above 19 = .ok (.iload 5, 2) := by decide +kernel
theorem d_Rows_above_21 : decode c_Rows_above 21 = .ok (.laload, 1) := by decide +kernel
theorem d_Rows_above_22 : decode c_Rows_above 22 = .ok (.lload_n 1, 1) := by decide +kernel
theorem d_Rows_above_23 : decode c_Rows_above 23 = .ok (.land, 1) := by decide +kernel
theorem d_Rows_above_24 : decode c_Rows_above 24 = .ok (.lconst 0, 1) := by decide +kernel
theorem d_Rows_above_25 : decode c_Rows_above 25 = .ok (.lcmp, 1) := by decide +kernel
theorem d_Rows_above_26 : decode c_Rows_above 26 = .ok (.ifCond .eq 10, 3) := by decide +kernel
theorem d_Rows_above_29 : decode c_Rows_above 29 = .ok (.lload_n 3, 1) := by decide +kernel
theorem d_Rows_above_30 : decode c_Rows_above 30 = .ok (.lconst 1, 1) := by decide +kernel
theorem d_Rows_above_31 : decode c_Rows_above 31 = .ok (.iload 5, 2) := by decide +kernel
theorem d_Rows_above_33 : decode c_Rows_above 33 = .ok (.lshl, 1) := by decide +kernel
theorem d_Rows_above_34 : decode c_Rows_above 34 = .ok (.lor, 1) := by decide +kernel
theorem d_Rows_above_35 : decode c_Rows_above 35 = .ok (.lstore_n 3, 1) := by decide +kernel
theorem d_Rows_above_36 : decode c_Rows_above 36 = .ok (.iinc 5 1, 3) := by decide +kernel
theorem d_Rows_above_39 : decode c_Rows_above 39 = .ok (.goto (-34), 3) := by decide +kernel
theorem d_Rows_above_42 : decode c_Rows_above 42 = .ok (.lload_n 3, 1) := by decide +kernel
theorem d_Rows_above_43 : decode c_Rows_above 43 = .ok (.lreturn, 1) := by decide +kernel
theorem d_Rows_close_0 : decode c_Rows_close 0 = .ok (.iconst 0, 1) := by decide +kernel
theorem d_Rows_close_1 : decode c_Rows_close 1 = .ok (.istore_n 2, 1) := by decide +kernel
theorem d_Rows_close_2 : decode c_Rows_close 2 = .ok (.iload_n 2, 1) := by decide +kernel
theorem d_Rows_close_3 : decode c_Rows_close 3 = .ok (.aload_n 0, 1) := by decide +kernel
theorem d_Rows_close_4 : decode c_Rows_close 4 = .ok (.getfield 18, 3) := by decide +kernel
theorem d_Rows_close_7 : decode c_Rows_close 7 = .ok (.arraylength, 1) := by decide +kernel
theorem d_Rows_close_8 : decode c_Rows_close 8 = .ok (.if_icmp .ge 20, 3) := by decide +kernel
theorem d_Rows_close_11 : decode c_Rows_close 11 = .ok (.aload_n 0, 1) := by decide +kernel
theorem d_Rows_close_12 : decode c_Rows_close 12 = .ok (.getfield 18, 3) := by decide +kernel
theorem d_Rows_close_15 : decode c_Rows_close 15 = .ok (.iload_n 2, 1) := by decide +kernel
theorem d_Rows_close_16 : decode c_Rows_close 16 = .ok (.aload_n 1, 1) := by decide +kernel
theorem d_Rows_close_17 : decode c_Rows_close 17 = .ok (.iload_n 2, 1) := by decide +kernel
theorem d_Rows_close_18 : decode c_Rows_close 18 = .ok (.invokevirtual 28, 3) := by decide +kernel
theorem d_Rows_close_21 : decode c_Rows_close 21 = .ok (.lastore, 1) := by decide +kernel
theorem d_Rows_close_22 : decode c_Rows_close 22 = .ok (.iinc 2 1, 3) := by decide +kernel
theorem d_Rows_close_25 : decode c_Rows_close 25 = .ok (.goto (-23), 3) := by decide +kernel
theorem d_Rows_close_28 : decode c_Rows_close 28 = .ok (.iconst 0, 1) := by decide +kernel
theorem d_Rows_close_29 : decode c_Rows_close 29 = .ok (.istore_n 2, 1) := by decide +kernel
theorem d_Rows_close_30 : decode c_Rows_close 30 = .ok (.iload_n 2, 1) := by decide +kernel
theorem d_Rows_close_31 : decode c_Rows_close 31 = .ok (.aload_n 0, 1) := by decide +kernel
theorem d_Rows_close_32 : decode c_Rows_close 32 = .ok (.getfield 18, 3) := by decide +kernel
theorem d_Rows_close_35 : decode c_Rows_close 35 = .ok (.arraylength, 1) := by decide +kernel
theorem d_Rows_close_36 : decode c_Rows_close 36 = .ok (.if_icmp .ge 68, 3) := by decide +kernel
theorem d_Rows_close_39 : decode c_Rows_close 39 = .ok (.aload_n 0, 1) := by decide +kernel
theorem d_Rows_close_40 : decode c_Rows_close 40 = .ok (.getfield 18, 3) := by decide +kernel
theorem d_Rows_close_43 : decode c_Rows_close 43 = .ok (.iload_n 2, 1) := by decide +kernel
theorem d_Rows_close_44 : decode c_Rows_close 44 = .ok (.laload, 1) := by decide +kernel
theorem d_Rows_close_45 : decode c_Rows_close 45 = .ok (.lstore_n 3, 1) := by decide +kernel
theorem d_Rows_close_46 : decode c_Rows_close 46 = .ok (.iconst 0, 1) := by decide +kernel
theorem d_Rows_close_47 : decode c_Rows_close 47 = .ok (.istore 5, 2) := by decide +kernel
theorem d_Rows_close_49 : decode c_Rows_close 49 = .ok (.iload 5, 2) := by decide +kernel
theorem d_Rows_close_51 : decode c_Rows_close 51 = .ok (.aload_n 0, 1) := by decide +kernel
theorem d_Rows_close_52 : decode c_Rows_close 52 = .ok (.getfield 18, 3) := by decide +kernel
theorem d_Rows_close_55 : decode c_Rows_close 55 = .ok (.arraylength, 1) := by decide +kernel
theorem d_Rows_close_56 : decode c_Rows_close 56 = .ok (.if_icmp .ge 42, 3) := by decide +kernel
theorem d_Rows_close_59 : decode c_Rows_close 59 = .ok (.lload_n 3, 1) := by decide +kernel
theorem d_Rows_close_60 : decode c_Rows_close 60 = .ok (.lconst 0, 1) := by decide +kernel
theorem d_Rows_close_61 : decode c_Rows_close 61 = .ok (.lcmp, 1) := by decide +kernel
theorem d_Rows_close_62 : decode c_Rows_close 62 = .ok (.ifCond .eq 36, 3) := by decide +kernel
theorem d_Rows_close_65 : decode c_Rows_close 65 = .ok (.aload_n 0, 1) := by decide +kernel
theorem d_Rows_close_66 : decode c_Rows_close 66 = .ok (.getfield 18, 3) := by decide +kernel
theorem d_Rows_close_69 : decode c_Rows_close 69 = .ok (.iload 5, 2) := by decide +kernel
theorem d_Rows_close_71 : decode c_Rows_close 71 = .ok (.laload, 1) := by decide +kernel
theorem d_Rows_close_72 : decode c_Rows_close 72 = .ok (.iload_n 2, 1) := by decide +kernel
theorem d_Rows_close_73 : decode c_Rows_close 73 = .ok (.lushr, 1) := by decide +kernel
theorem d_Rows_close_74 : decode c_Rows_close 74 = .ok (.lconst 1, 1) := by decide +kernel
theorem d_Rows_close_75 : decode c_Rows_close 75 = .ok (.land, 1) := by decide +kernel
theorem d_Rows_close_76 : decode c_Rows_close 76 = .ok (.lconst 0, 1) := by decide +kernel
theorem d_Rows_close_77 : decode c_Rows_close 77 = .ok (.lcmp, 1) := by decide +kernel
theorem d_Rows_close_78 : decode c_Rows_close 78 = .ok (.ifCond .eq 14, 3) := by decide +kernel
theorem d_Rows_close_81 : decode c_Rows_close 81 = .ok (.aload_n 0, 1) := by decide +kernel
theorem d_Rows_close_82 : decode c_Rows_close 82 = .ok (.getfield 18, 3) := by decide +kernel
theorem d_Rows_close_85 : decode c_Rows_close 85 = .ok (.iload 5, 2) := by decide +kernel
theorem d_Rows_close_87 : decode c_Rows_close 87 = .ok (.dup2, 1) := by decide +kernel
theorem d_Rows_close_88 : decode c_Rows_close 88 = .ok (.laload, 1) := by decide +kernel
theorem d_Rows_close_89 : decode c_Rows_close 89 = .ok (.lload_n 3, 1) := by decide +kernel
theorem d_Rows_close_90 : decode c_Rows_close 90 = .ok (.lor, 1) := by decide +kernel
theorem d_Rows_close_91 : decode c_Rows_close 91 = .ok (.lastore, 1) := by decide +kernel
theorem d_Rows_close_92 : decode c_Rows_close 92 = .ok (.iinc 5 1, 3) := by decide +kernel
theorem d_Rows_close_95 : decode c_Rows_close 95 = .ok (.goto (-46), 3) := by decide +kernel
theorem d_Rows_close_98 : decode c_Rows_close 98 = .ok (.iinc 2 1, 3) := by decide +kernel
theorem d_Rows_close_101 : decode c_Rows_close 101 = .ok (.goto (-71), 3) := by decide +kernel
theorem d_Rows_close_104 : decode c_Rows_close 104 = .ok (.return_, 1) := by decide +kernel
theorem d_Relations_init_0 : decode c_Relations_init 0 = .ok (.aload_n 0, 1) := by decide +kernel
theorem d_Relations_init_1 : decode c_Relations_init 1 = .ok (.invokespecial 3, 3) := by decide +kernel
theorem d_Relations_init_4 : decode c_Relations_init 4 = .ok (.aload_n 0, 1) := by decide +kernel
theorem d_Relations_init_5 : decode c_Relations_init 5 = .ok (.new 9, 3) := by decide +kernel
theorem d_Relations_init_8 : decode c_Relations_init 8 = .ok (.dup, 1) := by decide +kernel
theorem d_Relations_init_9 : decode c_Relations_init 9 = .ok (.sipush 200, 3) := by decide +kernel
theorem d_Relations_init_12 : decode c_Relations_init 12 = .ok (.invokespecial 11, 3) := by decide +kernel
theorem d_Relations_init_15 : decode c_Relations_init 15 = .ok (.putfield 14, 3) := by decide +kernel
theorem d_Relations_init_18 : decode c_Relations_init 18 = .ok (.aload_n 0, 1) := by decide +kernel
theorem d_Relations_init_19 : decode c_Relations_init 19 = .ok (.new 9, 3) := by decide +kernel
theorem d_Relations_init_22 : decode c_Relations_init 22 = .ok (.dup, 1) := by decide +kernel
theorem d_Relations_init_23 : decode c_Relations_init 23 = .ok (.sipush 200, 3) := by decide +kernel
theorem d_Relations_init_26 : decode c_Relations_init 26 = .ok (.invokespecial 11, 3) := by decide +kernel
theorem d_Relations_init_29 : decode c_Relations_init 29 = .ok (.putfield 20, 3) := by decide +kernel
theorem d_Relations_init_32 : decode c_Relations_init 32 = .ok (.aload_n 0, 1) := by decide +kernel
theorem d_Relations_init_33 : decode c_Relations_init 33 = .ok (.new 9, 3) := by decide +kernel
theorem d_Relations_init_36 : decode c_Relations_init 36 = .ok (.dup, 1) := by decide +kernel
theorem d_Relations_init_37 : decode c_Relations_init 37 = .ok (.sipush 200, 3) := by decide +kernel
theorem d_Relations_init_40 : decode c_Relations_init 40 = .ok (.invokespecial 11, 3) := by decide +kernel
theorem d_Relations_init_43 : decode c_Relations_init 43 = .ok (.putfield 23, 3) := by decide +kernel
theorem d_Relations_init_46 : decode c_Relations_init 46 = .ok (.aload_n 0, 1) := by decide +kernel
theorem d_Relations_init_47 : decode c_Relations_init 47 = .ok (.iconst 0, 1) := by decide +kernel
theorem d_Relations_init_48 : decode c_Relations_init 48 = .ok (.putfield 26, 3) := by decide +kernel
theorem d_Relations_init_51 : decode c_Relations_init 51 = .ok (.aload_n 0, 1) := by decide +kernel
theorem d_Relations_init_52 : decode c_Relations_init 52 = .ok (.iconst 0, 1) := by decide +kernel
theorem d_Relations_init_53 : decode c_Relations_init 53 = .ok (.putfield 30, 3) := by decide +kernel
theorem d_Relations_init_56 : decode c_Relations_init 56 = .ok (.return_, 1) := by decide +kernel
theorem d_Relations_made_0 : decode c_Relations_made 0 = .ok (.aload_n 0, 1) := by decide +kernel
theorem d_Relations_made_1 : decode c_Relations_made 1 = .ok (.getfield 26, 3) := by decide +kernel
theorem d_Relations_made_4 : decode c_Relations_made 4 = .ok (.ireturn, 1) := by decide +kernel
theorem d_Relations_standing_0 : decode c_Relations_standing 0 = .ok (.aload_n 0, 1) := by decide +kernel
theorem d_Relations_standing_1 : decode c_Relations_standing 1 = .ok (.getfield 30, 3) := by decide +kernel
theorem d_Relations_standing_4 : decode c_Relations_standing 4 = .ok (.ireturn, 1) := by decide +kernel
theorem d_Relations_upperOf_0 : decode c_Relations_upperOf 0 = .ok (.aload_n 0, 1) := by decide +kernel
theorem d_Relations_upperOf_1 : decode c_Relations_upperOf 1 = .ok (.getfield 14, 3) := by decide +kernel
theorem d_Relations_upperOf_4 : decode c_Relations_upperOf 4 = .ok (.iload_n 1, 1) := by decide +kernel
theorem d_Relations_upperOf_5 : decode c_Relations_upperOf 5 = .ok (.invokevirtual 33, 3) := by decide +kernel
theorem d_Relations_upperOf_8 : decode c_Relations_upperOf 8 = .ok (.ireturn, 1) := by decide +kernel
theorem d_Relations_lowerOf_0 : decode c_Relations_lowerOf 0 = .ok (.aload_n 0, 1) := by decide +kernel
theorem d_Relations_lowerOf_1 : decode c_Relations_lowerOf 1 = .ok (.getfield 20, 3) := by decide +kernel
theorem d_Relations_lowerOf_4 : decode c_Relations_lowerOf 4 = .ok (.iload_n 1, 1) := by decide +kernel
theorem d_Relations_lowerOf_5 : decode c_Relations_lowerOf 5 = .ok (.invokevirtual 33, 3) := by decide +kernel
theorem d_Relations_lowerOf_8 : decode c_Relations_lowerOf 8 = .ok (.ireturn, 1) := by decide +kernel
theorem d_Relations_kindOf_0 : decode c_Relations_kindOf 0 = .ok (.aload_n 0, 1) := by decide +kernel
theorem d_Relations_kindOf_1 : decode c_Relations_kindOf 1 = .ok (.getfield 23, 3) := by decide +kernel
theorem d_Relations_kindOf_4 : decode c_Relations_kindOf 4 = .ok (.iload_n 1, 1) := by decide +kernel
theorem d_Relations_kindOf_5 : decode c_Relations_kindOf 5 = .ok (.invokevirtual 33, 3) := by decide +kernel
theorem d_Relations_kindOf_8 : decode c_Relations_kindOf 8 = .ok (.ireturn, 1) := by decide +kernel
theorem d_Relations_add_0 : decode c_Relations_add 0 = .ok (.aload_n 0, 1) := by decide +kernel
theorem d_Relations_add_1 : decode c_Relations_add 1 = .ok (.getfield 14, 3) := by decide +kernel
theorem d_Relations_add_4 : decode c_Relations_add 4 = .ok (.aload_n 0, 1) := by decide +kernel
theorem d_Relations_add_5 : decode c_Relations_add 5 = .ok (.getfield 26, 3) := by decide +kernel
theorem d_Relations_add_8 : decode c_Relations_add 8 = .ok (.iload_n 1, 1) := by decide +kernel
theorem d_Relations_add_9 : decode c_Relations_add 9 = .ok (.invokevirtual 37, 3) := by decide +kernel
theorem d_Relations_add_12 : decode c_Relations_add 12 = .ok (.aload_n 0, 1) := by decide +kernel
theorem d_Relations_add_13 : decode c_Relations_add 13 = .ok (.getfield 20, 3) := by decide +kernel
theorem d_Relations_add_16 : decode c_Relations_add 16 = .ok (.aload_n 0, 1) := by decide +kernel
theorem d_Relations_add_17 : decode c_Relations_add 17 = .ok (.getfield 26, 3) := by decide +kernel
theorem d_Relations_add_20 : decode c_Relations_add 20 = .ok (.iload_n 2, 1) := by decide +kernel
theorem d_Relations_add_21 : decode c_Relations_add 21 = .ok (.invokevirtual 37, 3) := by decide +kernel
theorem d_Relations_add_24 : decode c_Relations_add 24 = .ok (.aload_n 0, 1) := by decide +kernel
theorem d_Relations_add_25 : decode c_Relations_add 25 = .ok (.getfield 23, 3) := by decide +kernel
theorem d_Relations_add_28 : decode c_Relations_add 28 = .ok (.aload_n 0, 1) := by decide +kernel
theorem d_Relations_add_29 : decode c_Relations_add 29 = .ok (.getfield 26, 3) := by decide +kernel
theorem d_Relations_add_32 : decode c_Relations_add 32 = .ok (.iload_n 3, 1) := by decide +kernel
theorem d_Relations_add_33 : decode c_Relations_add 33 = .ok (.invokevirtual 37, 3) := by decide +kernel
theorem d_Relations_add_36 : decode c_Relations_add 36 = .ok (.aload_n 0, 1) := by decide +kernel
theorem d_Relations_add_37 : decode c_Relations_add 37 = .ok (.dup, 1) := by decide +kernel
theorem d_Relations_add_38 : decode c_Relations_add 38 = .ok (.getfield 26, 3) := by decide +kernel
theorem d_Relations_add_41 : decode c_Relations_add 41 = .ok (.iconst 1, 1) := by decide +kernel
theorem d_Relations_add_42 : decode c_Relations_add 42 = .ok (.iadd, 1) := by decide +kernel
theorem d_Relations_add_43 : decode c_Relations_add 43 = .ok (.putfield 26, 3) := by decide +kernel
theorem d_Relations_add_46 : decode c_Relations_add 46 = .ok (.aload_n 0, 1) := by decide +kernel
theorem d_Relations_add_47 : decode c_Relations_add 47 = .ok (.dup, 1) := by decide +kernel
theorem d_Relations_add_48 : decode c_Relations_add 48 = .ok (.getfield 30, 3) := by decide +kernel
theorem d_Relations_add_51 : decode c_Relations_add 51 = .ok (.iconst 1, 1) := by decide +kernel
theorem d_Relations_add_52 : decode c_Relations_add 52 = .ok (.iadd, 1) := by decide +kernel
theorem d_Relations_add_53 : decode c_Relations_add 53 = .ok (.putfield 30, 3) := by decide +kernel
theorem d_Relations_add_56 : decode c_Relations_add 56 = .ok (.aload_n 0, 1) := by decide +kernel
theorem d_Relations_add_57 : decode c_Relations_add 57 = .ok (.getfield 26, 3) := by decide +kernel
theorem d_Relations_add_60 : decode c_Relations_add 60 = .ok (.iconst 1, 1) := by decide +kernel
theorem d_Relations_add_61 : decode c_Relations_add 61 = .ok (.isub, 1) := by decide +kernel
theorem d_Relations_add_62 : decode c_Relations_add 62 = .ok (.ireturn, 1) := by decide +kernel
theorem d_Relations_drop_0 : decode c_Relations_drop 0 = .ok (.aload_n 0, 1) := by decide +kernel
theorem d_Relations_drop_1 : decode c_Relations_drop 1 = .ok (.getfield 23, 3) := by decide +kernel
theorem d_Relations_drop_4 : decode c_Relations_drop 4 = .ok (.iload_n 1, 1) := by decide +kernel
theorem d_Relations_drop_5 : decode c_Relations_drop 5 = .ok (.invokevirtual 33, 3) := by decide +kernel
theorem d_Relations_drop_8 : decode c_Relations_drop 8 = .ok (.iconst (-1), 1) := by decide +kernel
theorem d_Relations_drop_9 : decode c_Relations_drop 9 = .ok (.if_icmp .ne 5, 3) := by decide +kernel
theorem d_Relations_drop_12 : decode c_Relations_drop 12 = .ok (.iconst 0, 1) := by decide +kernel
theorem d_Relations_drop_13 : decode c_Relations_drop 13 = .ok (.ireturn, 1) := by decide +kernel
theorem d_Relations_drop_14 : decode c_Relations_drop 14 = .ok (.aload_n 0, 1) := by decide +kernel
theorem d_Relations_drop_15 : decode c_Relations_drop 15 = .ok (.getfield 23, 3) := by decide +kernel
theorem d_Relations_drop_18 : decode c_Relations_drop 18 = .ok (.iload_n 1, 1) := by decide +kernel
theorem d_Relations_drop_19 : decode c_Relations_drop 19 = .ok (.iconst (-1), 1) := by decide +kernel
theorem d_Relations_drop_20 : decode c_Relations_drop 20 = .ok (.invokevirtual 37, 3) := by decide +kernel
theorem d_Relations_drop_23 : decode c_Relations_drop 23 = .ok (.aload_n 0, 1) := by decide +kernel
theorem d_Relations_drop_24 : decode c_Relations_drop 24 = .ok (.dup, 1) := by decide +kernel
theorem d_Relations_drop_25 : decode c_Relations_drop 25 = .ok (.getfield 30, 3) := by decide +kernel
theorem d_Relations_drop_28 : decode c_Relations_drop 28 = .ok (.iconst 1, 1) := by decide +kernel
theorem d_Relations_drop_29 : decode c_Relations_drop 29 = .ok (.isub, 1) := by decide +kernel
theorem d_Relations_drop_30 : decode c_Relations_drop 30 = .ok (.putfield 30, 3) := by decide +kernel
theorem d_Relations_drop_33 : decode c_Relations_drop 33 = .ok (.iconst 1, 1) := by decide +kernel
theorem d_Relations_drop_34 : decode c_Relations_drop 34 = .ok (.ireturn, 1) := by decide +kernel
theorem d_Ring_init_0 : decode c_Ring_init 0 = .ok (.aload_n 0, 1) := by decide +kernel
theorem d_Ring_init_1 : decode c_Ring_init 1 = .ok (.invokespecial 3, 3) := by decide +kernel
theorem d_Ring_init_4 : decode c_Ring_init 4 = .ok (.aload_n 0, 1) := by decide +kernel
theorem d_Ring_init_5 : decode c_Ring_init 5 = .ok (.new 9, 3) := by decide +kernel
theorem d_Ring_init_8 : decode c_Ring_init 8 = .ok (.dup, 1) := by decide +kernel
theorem d_Ring_init_9 : decode c_Ring_init 9 = .ok (.bipush 48, 2) := by decide +kernel
theorem d_Ring_init_11 : decode c_Ring_init 11 = .ok (.invokespecial 11, 3) := by decide +kernel
theorem d_Ring_init_14 : decode c_Ring_init 14 = .ok (.putfield 14, 3) := by decide +kernel
theorem d_Ring_init_17 : decode c_Ring_init 17 = .ok (.aload_n 0, 1) := by decide +kernel
theorem d_Ring_init_18 : decode c_Ring_init 18 = .ok (.bipush 48, 2) := by decide +kernel
theorem d_Ring_init_20 : decode c_Ring_init 20 = .ok (.newarray .long, 2) := by decide +kernel
theorem d_Ring_init_22 : decode c_Ring_init 22 = .ok (.putfield 20, 3) := by decide +kernel
theorem d_Ring_init_25 : decode c_Ring_init 25 = .ok (.aload_n 0, 1) := by decide +kernel
theorem d_Ring_init_26 : decode c_Ring_init 26 = .ok (.iconst 0, 1) := by decide +kernel
theorem d_Ring_init_27 : decode c_Ring_init 27 = .ok (.putfield 24, 3) := by decide +kernel
theorem d_Ring_init_30 : decode c_Ring_init 30 = .ok (.return_, 1) := by decide +kernel
theorem d_Ring_place_0 : decode c_Ring_place 0 = .ok (.iload_n 1, 1) := by decide +kernel
theorem d_Ring_place_1 : decode c_Ring_place 1 = .ok (.aload_n 0, 1) := by decide +kernel
theorem d_Ring_place_2 : decode c_Ring_place 2 = .ok (.getfield 24, 3) := by decide +kernel
theorem d_Ring_place_5 : decode c_Ring_place 5 = .ok (.if_icmp .ge 14, 3) := by decide +kernel
theorem d_Ring_place_8 : decode c_Ring_place 8 = .ok (.aload_n 0, 1) := by decide +kernel
theorem d_Ring_place_9 : decode c_Ring_place 9 = .ok (.getfield 14, 3) := by decide +kernel
theorem d_Ring_place_12 : decode c_Ring_place 12 = .ok (.iload_n 1, 1) := by decide +kernel
theorem d_Ring_place_13 : decode c_Ring_place 13 = .ok (.invokevirtual 28, 3) := by decide +kernel
theorem d_Ring_place_16 : decode c_Ring_place 16 = .ok (.goto 4, 3) := by decide +kernel
theorem d_Ring_place_19 : decode c_Ring_place 19 = .ok (.iconst (-1), 1) := by decide +kernel
theorem d_Ring_place_20 : decode c_Ring_place 20 = .ok (.ireturn, 1) := by decide +kernel
theorem d_Ring_tell_0 : decode c_Ring_tell 0 = .ok (.aload_n 0, 1) := by decide +kernel
theorem d_Ring_tell_1 : decode c_Ring_tell 1 = .ok (.aload_n 1, 1) := by decide +kernel
theorem d_Ring_tell_2 : decode c_Ring_tell 2 = .ok (.iload_n 2, 1) := by decide +kernel
theorem d_Ring_tell_3 : decode c_Ring_tell 3 = .ok (.invokevirtual 32, 3) := by decide +kernel
theorem d_Ring_tell_6 : decode c_Ring_tell 6 = .ok (.istore_n 3, 1) := by decide +kernel
theorem d_Ring_tell_7 : decode c_Ring_tell 7 = .ok (.iload_n 3, 1) := by decide +kernel
theorem d_Ring_tell_8 : decode c_Ring_tell 8 = .ok (.ifCond .ne 5, 3) := by decide +kernel
theorem d_Ring_tell_11 : decode c_Ring_tell 11 = .ok (.iconst 0, 1) := by decide +kernel
theorem d_Ring_tell_12 : decode c_Ring_tell 12 = .ok (.ireturn, 1) := by decide +kernel
theorem d_Ring_tell_13 : decode c_Ring_tell 13 = .ok (.aload_n 0, 1) := by decide +kernel
theorem d_Ring_tell_14 : decode c_Ring_tell 14 = .ok (.aload_n 1, 1) := by decide +kernel
theorem d_Ring_tell_15 : decode c_Ring_tell 15 = .ok (.iload_n 2, 1) := by decide +kernel
theorem d_Ring_tell_16 : decode c_Ring_tell 16 = .ok (.iload_n 3, 1) := by decide +kernel
theorem d_Ring_tell_17 : decode c_Ring_tell 17 = .ok (.invokevirtual 36, 3) := by decide +kernel
theorem d_Ring_tell_20 : decode c_Ring_tell 20 = .ok (.iconst 1, 1) := by decide +kernel
theorem d_Ring_tell_21 : decode c_Ring_tell 21 = .ok (.ireturn, 1) := by decide +kernel
theorem d_Ring_measure_0 : decode c_Ring_measure 0 = .ok (.lconst 1, 1) := by decide +kernel
theorem d_Ring_measure_1 : decode c_Ring_measure 1 = .ok (.iload_n 2, 1) := by decide +kernel
theorem d_Ring_measure_2 : decode c_Ring_measure 2 = .ok (.lshl, 1) := by decide +kernel
theorem d_Ring_measure_3 : decode c_Ring_measure 3 = .ok (.lstore_n 3, 1) := by decide +kernel
theorem d_Ring_measure_4 : decode c_Ring_measure 4 = .ok (.lconst 0, 1) := by decide +kernel
theorem d_Ring_measure_5 : decode c_Ring_measure 5 = .ok (.lstore 5, 2) := by decide +kernel
theorem d_Ring_measure_7 : decode c_Ring_measure 7 = .ok (.iconst 0, 1) := by decide +kernel
theorem d_Ring_measure_8 : decode c_Ring_measure 8 = .ok (.istore 7, 2) := by decide +kernel
theorem d_Ring_measure_10 : decode c_Ring_measure 10 = .ok (.iload 7, 2) := by decide +kernel
theorem d_Ring_measure_12 : decode c_Ring_measure 12 = .ok (.aload_n 0, 1) := by decide +kernel
theorem d_Ring_measure_13 : decode c_Ring_measure 13 = .ok (.getfield 20, 3) := by decide +kernel
theorem d_Ring_measure_16 : decode c_Ring_measure 16 = .ok (.arraylength, 1) := by decide +kernel
theorem d_Ring_measure_17 : decode c_Ring_measure 17 = .ok (.if_icmp .ge 57, 3) := by decide +kernel
theorem d_Ring_measure_20 : decode c_Ring_measure 20 = .ok (.lload_n 3, 1) := by decide +kernel
theorem d_Ring_measure_21 : decode c_Ring_measure 21 = .ok (.lconst 0, 1) := by decide +kernel
theorem d_Ring_measure_22 : decode c_Ring_measure 22 = .ok (.lcmp, 1) := by decide +kernel
theorem d_Ring_measure_23 : decode c_Ring_measure 23 = .ok (.ifCond .eq 51, 3) := by decide +kernel
theorem d_Ring_measure_26 : decode c_Ring_measure 26 = .ok (.aload_n 1, 1) := by decide +kernel
theorem d_Ring_measure_27 : decode c_Ring_measure 27 = .ok (.lload_n 3, 1) := by decide +kernel
theorem d_Ring_measure_28 : decode c_Ring_measure 28 = .ok (.invokevirtual 40, 3) := by decide +kernel
theorem d_Ring_measure_31 : decode c_Ring_measure 31 = .ok (.lload 5, 2) := by decide +kernel
theorem d_Ring_measure_33 : decode c_Ring_measure 33 = .ok (.ldc2_w 46, 3) := by decide +kernel
theorem d_Ring_measure_36 : decode c_Ring_measure 36 = .ok (.lxor, 1) := by decide +kernel
theorem d_Ring_measure_37 : decode c_Ring_measure 37 = .ok (.land, 1) := by decide +kernel
theorem d_Ring_measure_38 : decode c_Ring_measure 38 = .ok (.lstore_n 3, 1) := by decide +kernel
theorem d_Ring_measure_39 : decode c_Ring_measure 39 = .ok (.aload_n 0, 1) := by decide +kernel
theorem d_Ring_measure_40 : decode c_Ring_measure 40 = .ok (.getfield 20, 3) := by decide +kernel
theorem d_Ring_measure_43 : decode c_Ring_measure 43 = .ok (.iload 7, 2) := by decide +kernel
theorem d_Ring_measure_45 : decode c_Ring_measure 45 = .ok (.lload_n 3, 1) := by decide +kernel
theorem d_Ring_measure_46 : decode c_Ring_measure 46 = .ok (.lastore, 1) := by decide +kernel
theorem d_Ring_measure_47 : decode c_Ring_measure 47 = .ok (.lload 5, 2) := by decide +kernel
theorem d_Ring_measure_49 : decode c_Ring_measure 49 = .ok (.lload_n 3, 1) := by decide +kernel
theorem d_Ring_measure_50 : decode c_Ring_measure 50 = .ok (.lor, 1) := by decide +kernel
theorem d_Ring_measure_51 : decode c_Ring_measure 51 = .ok (.lstore 5, 2) := by decide +kernel
theorem d_Ring_measure_53 : decode c_Ring_measure 53 = .ok (.lload_n 3, 1) := by decide +kernel
theorem d_Ring_measure_54 : decode c_Ring_measure 54 = .ok (.iload_n 2, 1) := by decide +kernel
theorem d_Ring_measure_55 : decode c_Ring_measure 55 = .ok (.lushr, 1) := by decide +kernel
theorem d_Ring_measure_56 : decode c_Ring_measure 56 = .ok (.lconst 1, 1) := by decide +kernel
theorem d_Ring_measure_57 : decode c_Ring_measure 57 = .ok (.land, 1) := by decide +kernel
theorem d_Ring_measure_58 : decode c_Ring_measure 58 = .ok (.lconst 0, 1) := by decide +kernel
theorem d_Ring_measure_59 : decode c_Ring_measure 59 = .ok (.lcmp, 1) := by decide +kernel
theorem d_Ring_measure_60 : decode c_Ring_measure 60 = .ok (.ifCond .eq 8, 3) := by decide +kernel
theorem d_Ring_measure_63 : decode c_Ring_measure 63 = .ok (.iload 7, 2) := by decide +kernel
theorem d_Ring_measure_65 : decode c_Ring_measure 65 = .ok (.iconst 1, 1) := by decide +kernel
theorem d_Ring_measure_66 : decode c_Ring_measure 66 = .ok (.iadd, 1) := by decide +kernel
theorem d_Ring_measure_67 : decode c_Ring_measure 67 = .ok (.ireturn, 1) := by decide +kernel
theorem d_Ring_measure_68 : decode c_Ring_measure 68 = .ok (.iinc 7 1, 3) := by decide +kernel
theorem d_Ring_measure_71 : decode c_Ring_measure 71 = .ok (.goto (-61), 3) := by decide +kernel
theorem d_Ring_measure_74 : decode c_Ring_measure 74 = .ok (.iconst 0, 1) := by decide +kernel
theorem d_Ring_measure_75 : decode c_Ring_measure 75 = .ok (.ireturn, 1) := by decide +kernel
theorem d_Ring_write_0 : decode c_Ring_write 0 = .ok (.iload_n 2, 1) := by decide +kernel
theorem d_Ring_write_1 : decode c_Ring_write 1 = .ok (.istore 4, 2) := by decide +kernel
theorem d_Ring_write_3 : decode c_Ring_write 3 = .ok (.iconst 0, 1) := by decide +kernel
theorem d_Ring_write_4 : decode c_Ring_write 4 = .ok (.istore 5, 2) := by decide +kernel
theorem d_Ring_write_6 : decode c_Ring_write 6 = .ok (.iload 5, 2) := by decide +kernel
theorem d_Ring_write_8 : decode c_Ring_write 8 = .ok (.iload_n 3, 1) := by decide +kernel
theorem d_Ring_write_9 : decode c_Ring_write 9 = .ok (.if_icmp .ge 63, 3) := by decide +kernel
theorem d_Ring_write_12 : decode c_Ring_write 12 = .ok (.aload_n 0, 1) := by decide +kernel
theorem d_Ring_write_13 : decode c_Ring_write 13 = .ok (.getfield 14, 3) := by decide +kernel
theorem d_Ring_write_16 : decode c_Ring_write 16 = .ok (.iload 5, 2) := by decide +kernel
theorem d_Ring_write_18 : decode c_Ring_write 18 = .ok (.iload 4, 2) := by decide +kernel
theorem d_Ring_write_20 : decode c_Ring_write 20 = .ok (.invokevirtual 48, 3) := by decide +kernel
theorem d_Ring_write_23 : decode c_Ring_write 23 = .ok (.iload_n 3, 1) := by decide +kernel
theorem d_Ring_write_24 : decode c_Ring_write 24 = .ok (.iconst 2, 1) := by decide +kernel
theorem d_Ring_write_25 : decode c_Ring_write 25 = .ok (.isub, 1) := by decide +kernel
theorem d_Ring_write_26 : decode c_Ring_write 26 = .ok (.iload 5, 2) := by decide +kernel
theorem d_Ring_write_28 : decode c_Ring_write 28 = .ok (.isub, 1) := by decide +kernel
theorem d_Ring_write_29 : decode c_Ring_write 29 = .ok (.istore 6, 2) := by decide +kernel
theorem d_Ring_write_31 : decode c_Ring_write 31 = .ok (.iload 6, 2) := by decide +kernel
theorem d_Ring_write_33 : decode c_Ring_write 33 = .ok (.ifCond .lt 33, 3) := by decide +kernel
theorem d_Ring_write_36 : decode c_Ring_write 36 = .ok (.iload 6, 2) := by decide +kernel
theorem d_Ring_write_38 : decode c_Ring_write 38 = .ok (.aload_n 0, 1) := by decide +kernel
theorem d_Ring_write_39 : decode c_Ring_write 39 = .ok (.getfield 20, 3) := by decide +kernel
theorem d_Ring_write_42 : decode c_Ring_write 42 = .ok (.arraylength, 1) := by decide +kernel
theorem d_Ring_write_43 : decode c_Ring_write 43 = .ok (.if_icmp .ge 23, 3) := by decide +kernel
theorem d_Ring_write_46 : decode c_Ring_write 46 = .ok (.aload_n 1, 1) := by decide +kernel
theorem d_Ring_write_47 : decode c_Ring_write 47 = .ok (.iload 4, 2) := by decide +kernel
theorem d_Ring_write_49 : decode c_Ring_write 49 = .ok (.invokevirtual 52, 3) := by decide +kernel
theorem d_Ring_write_52 : decode c_Ring_write 52 = .ok (.aload_n 0, 1) := by decide +kernel
theorem d_Ring_write_53 : decode c_Ring_write 53 = .ok (.getfield 20, 3) := by decide +kernel
theorem d_Ring_write_56 : decode c_Ring_write 56 = .ok (.iload 6, 2) := by decide +kernel
theorem d_Ring_write_58 : decode c_Ring_write 58 = .ok (.laload, 1) := by decide +kernel
theorem d_Ring_write_59 : decode c_Ring_write 59 = .ok (.land, 1) := by decide +kernel
theorem d_Ring_write_60 : decode c_Ring_write 60 = .ok (.iconst 0, 1) := by decide +kernel
theorem d_Ring_write_61 : decode c_Ring_write 61 = .ok (.invokestatic 56, 3) := by decide +kernel
theorem d_Ring_write_64 : decode c_Ring_write 64 = .ok (.istore 4, 2) := by decide +kernel
theorem d_Ring_write_66 : decode c_Ring_write 66 = .ok (.iinc 5 1, 3) := by decide +kernel
theorem d_Ring_write_69 : decode c_Ring_write 69 = .ok (.goto (-63), 3) := by decide +kernel
theorem d_Ring_write_72 : decode c_Ring_write 72 = .ok (.aload_n 0, 1) := by decide +kernel
theorem d_Ring_write_73 : decode c_Ring_write 73 = .ok (.iload_n 3, 1) := by decide +kernel
theorem d_Ring_write_74 : decode c_Ring_write 74 = .ok (.putfield 24, 3) := by decide +kernel
theorem d_Ring_write_77 : decode c_Ring_write 77 = .ok (.return_, 1) := by decide +kernel
theorem d_Strata_init_0 : decode c_Strata_init 0 = .ok (.aload_n 0, 1) := by decide +kernel
theorem d_Strata_init_1 : decode c_Strata_init 1 = .ok (.invokespecial 3, 3) := by decide +kernel
theorem d_Strata_init_4 : decode c_Strata_init 4 = .ok (.aload_n 0, 1) := by decide +kernel
theorem d_Strata_init_5 : decode c_Strata_init 5 = .ok (.new 9, 3) := by decide +kernel
theorem d_Strata_init_8 : decode c_Strata_init 8 = .ok (.dup, 1) := by decide +kernel
theorem d_Strata_init_9 : decode c_Strata_init 9 = .ok (.bipush 48, 2) := by decide +kernel
theorem d_Strata_init_11 : decode c_Strata_init 11 = .ok (.invokespecial 11, 3) := by decide +kernel
theorem d_Strata_init_14 : decode c_Strata_init 14 = .ok (.putfield 14, 3) := by decide +kernel
theorem d_Strata_init_17 : decode c_Strata_init 17 = .ok (.aload_n 0, 1) := by decide +kernel
theorem d_Strata_init_18 : decode c_Strata_init 18 = .ok (.new 20, 3) := by decide +kernel
theorem d_Strata_init_21 : decode c_Strata_init 21 = .ok (.dup, 1) := by decide +kernel
theorem d_Strata_init_22 : decode c_Strata_init 22 = .ok (.bipush 48, 2) := by decide +kernel
theorem d_Strata_init_24 : decode c_Strata_init 24 = .ok (.invokespecial 22, 3) := by decide +kernel
theorem d_Strata_init_27 : decode c_Strata_init 27 = .ok (.putfield 23, 3) := by decide +kernel
theorem d_Strata_init_30 : decode c_Strata_init 30 = .ok (.aload_n 0, 1) := by decide +kernel
theorem d_Strata_init_31 : decode c_Strata_init 31 = .ok (.new 20, 3) := by decide +kernel
theorem d_Strata_init_34 : decode c_Strata_init 34 = .ok (.dup, 1) := by decide +kernel
theorem d_Strata_init_35 : decode c_Strata_init 35 = .ok (.bipush 48, 2) := by decide +kernel
theorem d_Strata_init_37 : decode c_Strata_init 37 = .ok (.invokespecial 22, 3) := by decide +kernel
theorem d_Strata_init_40 : decode c_Strata_init 40 = .ok (.putfield 27, 3) := by decide +kernel
theorem d_Strata_init_43 : decode c_Strata_init 43 = .ok (.aload_n 0, 1) := by decide +kernel
theorem d_Strata_init_44 : decode c_Strata_init 44 = .ok (.iconst 0, 1) := by decide +kernel
theorem d_Strata_init_45 : decode c_Strata_init 45 = .ok (.putfield 30, 3) := by decide +kernel
theorem d_Strata_init_48 : decode c_Strata_init 48 = .ok (.return_, 1) := by decide +kernel
theorem d_Strata_contexts_0 : decode c_Strata_contexts 0 = .ok (.aload_n 0, 1) := by decide +kernel
theorem d_Strata_contexts_1 : decode c_Strata_contexts 1 = .ok (.getfield 30, 3) := by decide +kernel
theorem d_Strata_contexts_4 : decode c_Strata_contexts 4 = .ok (.ireturn, 1) := by decide +kernel
theorem d_Strata_addContext_0 : decode c_Strata_addContext 0 = .ok (.aload_n 0, 1) := by decide +kernel
theorem d_Strata_addContext_1 : decode c_Strata_addContext 1 = .ok (.getfield 14, 3) := by decide +kernel
theorem d_Strata_addContext_4 : decode c_Strata_addContext 4 = .ok (.aload_n 0, 1) := by decide +kernel
theorem d_Strata_addContext_5 : decode c_Strata_addContext 5 = .ok (.getfield 30, 3) := by decide +kernel
theorem d_Strata_addContext_8 : decode c_Strata_addContext 8 = .ok (.aload_n 0, 1) := by decide +kernel
theorem d_Strata_addContext_9 : decode c_Strata_addContext 9 = .ok (.getfield 30, 3) := by decide +kernel
theorem d_Strata_addContext_12 : decode c_Strata_addContext 12 = .ok (.invokevirtual 34, 3) := by decide +kernel
theorem d_Strata_addContext_15 : decode c_Strata_addContext 15 = .ok (.aload_n 0, 1) := by decide +kernel
theorem d_Strata_addContext_16 : decode c_Strata_addContext 16 = .ok (.dup, 1) := by decide +kernel
theorem d_Strata_addContext_17 : decode c_Strata_addContext 17 = .ok (.getfield 30, 3) := by decide +kernel
theorem d_Strata_addContext_20 : decode c_Strata_addContext 20 = .ok (.iconst 1, 1) := by decide +kernel
theorem d_Strata_addContext_21 : decode c_Strata_addContext 21 = .ok (.iadd, 1) := by decide +kernel
theorem d_Strata_addContext_22 : decode c_Strata_addContext 22 = .ok (.putfield 30, 3) := by decide +kernel
theorem d_Strata_addContext_25 : decode c_Strata_addContext 25 = .ok (.aload_n 0, 1) := by decide +kernel
theorem d_Strata_addContext_26 : decode c_Strata_addContext 26 = .ok (.getfield 30, 3) := by decide +kernel
theorem d_Strata_addContext_29 : decode c_Strata_addContext 29 = .ok (.iconst 1, 1) := by decide +kernel
theorem d_Strata_addContext_30 : decode c_Strata_addContext 30 = .ok (.isub, 1) := by decide +kernel
theorem d_Strata_addContext_31 : decode c_Strata_addContext 31 = .ok (.ireturn, 1) := by decide +kernel
theorem d_Strata_numberOf_0 : decode c_Strata_numberOf 0 = .ok (.aload_n 0, 1) := by decide +kernel
theorem d_Strata_numberOf_1 : decode c_Strata_numberOf 1 = .ok (.getfield 14, 3) := by decide +kernel
theorem d_Strata_numberOf_4 : decode c_Strata_numberOf 4 = .ok (.iload_n 1, 1) := by decide +kernel
theorem d_Strata_numberOf_5 : decode c_Strata_numberOf 5 = .ok (.invokevirtual 38, 3) := by decide +kernel
theorem d_Strata_numberOf_8 : decode c_Strata_numberOf 8 = .ok (.ireturn, 1) := by decide +kernel
theorem d_Strata_isOver_0 : decode c_Strata_isOver 0 = .ok (.aload_n 0, 1) := by decide +kernel
theorem d_Strata_isOver_1 : decode c_Strata_isOver 1 = .ok (.getfield 27, 3) := by decide +kernel
theorem d_Strata_isOver_4 : decode c_Strata_isOver 4 = .ok (.aload_n 0, 1) := by decide +kernel
theorem d_Strata_isOver_5 : decode c_Strata_isOver 5 = .ok (.getfield 14, 3) := by decide +kernel
theorem d_Strata_isOver_8 : decode c_Strata_isOver 8 = .ok (.iload_n 1, 1) := by decide +kernel
theorem d_Strata_isOver_9 : decode c_Strata_isOver 9 = .ok (.invokevirtual 38, 3) := by decide +kernel
theorem d_Strata_isOver_12 : decode c_Strata_isOver 12 = .ok (.aload_n 0, 1) := by decide +kernel
theorem d_Strata_isOver_13 : decode c_Strata_isOver 13 = .ok (.getfield 14, 3) := by decide +kernel
theorem d_Strata_isOver_16 : decode c_Strata_isOver 16 = .ok (.iload_n 2, 1) := by decide +kernel
theorem d_Strata_isOver_17 : decode c_Strata_isOver 17 = .ok (.invokevirtual 38, 3) := by decide +kernel
theorem d_Strata_isOver_20 : decode c_Strata_isOver 20 = .ok (.invokevirtual 42, 3) := by decide +kernel
theorem d_Strata_isOver_23 : decode c_Strata_isOver 23 = .ok (.ireturn, 1) := by decide +kernel
theorem d_Strata_rebuild_0 : decode c_Strata_rebuild 0 = .ok (.aload_n 0, 1) := by decide +kernel
theorem d_Strata_rebuild_1 : decode c_Strata_rebuild 1 = .ok (.aload_n 1, 1) := by decide +kernel
theorem d_Strata_rebuild_2 : decode c_Strata_rebuild 2 = .ok (.invokevirtual 46, 3) := by decide +kernel
theorem d_Strata_rebuild_5 : decode c_Strata_rebuild 5 = .ok (.aload_n 0, 1) := by decide +kernel
theorem d_Strata_rebuild_6 : decode c_Strata_rebuild 6 = .ok (.getfield 23, 3) := by decide +kernel
theorem d_Strata_rebuild_9 : decode c_Strata_rebuild 9 = .ok (.invokevirtual 50, 3) := by decide +kernel
theorem d_Strata_rebuild_12 : decode c_Strata_rebuild 12 = .ok (.iconst 0, 1) := by decide +kernel
theorem d_Strata_rebuild_13 : decode c_Strata_rebuild 13 = .ok (.istore_n 2, 1) := by decide +kernel
theorem d_Strata_rebuild_14 : decode c_Strata_rebuild 14 = .ok (.iload_n 2, 1) := by decide +kernel
theorem d_Strata_rebuild_15 : decode c_Strata_rebuild 15 = .ok (.aload_n 1, 1) := by decide +kernel
theorem d_Strata_rebuild_16 : decode c_Strata_rebuild 16 = .ok (.invokevirtual 53, 3) := by decide +kernel
theorem d_Strata_rebuild_19 : decode c_Strata_rebuild 19 = .ok (.if_icmp .ge 55, 3) := by decide +kernel
theorem d_Strata_rebuild_22 : decode c_Strata_rebuild 22 = .ok (.aload_n 1, 1) := by decide +kernel
theorem d_Strata_rebuild_23 : decode c_Strata_rebuild 23 = .ok (.iload_n 2, 1) := by decide +kernel
theorem d_Strata_rebuild_24 : decode c_Strata_rebuild 24 = .ok (.invokevirtual 59, 3) := by decide +kernel
theorem d_Strata_rebuild_27 : decode c_Strata_rebuild 27 = .ok (.istore_n 3, 1) := by decide +kernel
theorem d_Strata_rebuild_28 : decode c_Strata_rebuild 28 = .ok (.iload_n 3, 1) := by decide +kernel
theorem d_Strata_rebuild_29 : decode c_Strata_rebuild 29 = .ok (.ifCond .lt 39, 3) := by decide +kernel
theorem d_Strata_rebuild_32 : decode c_Strata_rebuild 32 = .ok (.iload_n 3, 1) := by decide +kernel
theorem d_Strata_rebuild_33 : decode c_Strata_rebuild 33 = .ok (.iconst 3, 1) := by decide +kernel
theorem d_Strata_rebuild_34 : decode c_Strata_rebuild 34 = .ok (.if_icmp .ge 34, 3) := by decide +kernel
theorem d_Strata_rebuild_37 : decode c_Strata_rebuild 37 = .ok (.aload_n 0, 1) := by decide +kernel
theorem d_Strata_rebuild_38 : decode c_Strata_rebuild 38 = .ok (.getfield 23, 3) := by decide +kernel
theorem d_Strata_rebuild_41 : decode c_Strata_rebuild 41 = .ok (.aload_n 0, 1) := by decide +kernel
theorem d_Strata_rebuild_42 : decode c_Strata_rebuild 42 = .ok (.getfield 14, 3) := by decide +kernel
theorem d_Strata_rebuild_45 : decode c_Strata_rebuild 45 = .ok (.aload_n 1, 1) := by decide +kernel
theorem d_Strata_rebuild_46 : decode c_Strata_rebuild 46 = .ok (.iload_n 2, 1) := by decide +kernel
theorem d_Strata_rebuild_47 : decode c_Strata_rebuild 47 = .ok (.invokevirtual 62, 3) := by decide +kernel
theorem d_Strata_rebuild_50 : decode c_Strata_rebuild 50 = .ok (.invokevirtual 38, 3) := by decide +kernel
theorem d_Strata_rebuild_53 : decode c_Strata_rebuild 53 = .ok (.aload_n 0, 1) := by decide +kernel
theorem d_Strata_rebuild_54 : decode c_Strata_rebuild 54 = .ok (.getfield 14, 3) := by decide +kernel
theorem d_Strata_rebuild_57 : decode c_Strata_rebuild 57 = .ok (.aload_n 1, 1) := by decide +kernel
theorem d_Strata_rebuild_58 : decode c_Strata_rebuild 58 = .ok (.iload_n 2, 1) := by decide +kernel
theorem d_Strata_rebuild_59 : decode c_Strata_rebuild 59 = .ok (.invokevirtual 65, 3) := by decide +kernel
theorem d_Strata_rebuild_62 : decode c_Strata_rebuild 62 = .ok (.invokevirtual 38, 3) := by decide +kernel
theorem d_Strata_rebuild_65 : decode c_Strata_rebuild 65 = .ok (.invokevirtual 68, 3) := by decide +kernel
theorem d_Strata_rebuild_68 : decode c_Strata_rebuild 68 = .ok (.iinc 2 1, 3) := by decide +kernel
theorem d_Strata_rebuild_71 : decode c_Strata_rebuild 71 = .ok (.goto (-57), 3) := by decide +kernel
theorem d_Strata_rebuild_74 : decode c_Strata_rebuild 74 = .ok (.aload_n 0, 1) := by decide +kernel
theorem d_Strata_rebuild_75 : decode c_Strata_rebuild 75 = .ok (.getfield 27, 3) := by decide +kernel
theorem d_Strata_rebuild_78 : decode c_Strata_rebuild 78 = .ok (.aload_n 0, 1) := by decide +kernel
theorem d_Strata_rebuild_79 : decode c_Strata_rebuild 79 = .ok (.getfield 23, 3) := by decide +kernel
theorem d_Strata_rebuild_82 : decode c_Strata_rebuild 82 = .ok (.invokevirtual 71, 3) := by decide +kernel
theorem d_Strata_rebuild_85 : decode c_Strata_rebuild 85 = .ok (.return_, 1) := by decide +kernel
theorem d_Strata_join_0 : decode c_Strata_join 0 = .ok (.iconst 0, 1) := by decide +kernel
theorem d_Strata_join_1 : decode c_Strata_join 1 = .ok (.istore_n 2, 1) := by decide +kernel
theorem d_Strata_join_2 : decode c_Strata_join 2 = .ok (.iload_n 2, 1) := by decide +kernel
theorem d_Strata_join_3 : decode c_Strata_join 3 = .ok (.aload_n 0, 1) := by decide +kernel
theorem d_Strata_join_4 : decode c_Strata_join 4 = .ok (.getfield 30, 3) := by decide +kernel
theorem d_Strata_join_7 : decode c_Strata_join 7 = .ok (.if_icmp .ge 18, 3) := by decide +kernel
theorem d_Strata_join_10 : decode c_Strata_join 10 = .ok (.aload_n 0, 1) := by decide +kernel
theorem d_Strata_join_11 : decode c_Strata_join 11 = .ok (.getfield 14, 3) := by decide +kernel
theorem d_Strata_join_14 : decode c_Strata_join 14 = .ok (.iload_n 2, 1) := by decide +kernel
theorem d_Strata_join_15 : decode c_Strata_join 15 = .ok (.iload_n 2, 1) := by decide +kernel
theorem d_Strata_join_16 : decode c_Strata_join 16 = .ok (.invokevirtual 34, 3) := by decide +kernel
theorem d_Strata_join_19 : decode c_Strata_join 19 = .ok (.iinc 2 1, 3) := by decide +kernel
theorem d_Strata_join_22 : decode c_Strata_join 22 = .ok (.goto (-20), 3) := by decide +kernel
theorem d_Strata_join_25 : decode c_Strata_join 25 = .ok (.iconst 0, 1) := by decide +kernel
theorem d_Strata_join_26 : decode c_Strata_join 26 = .ok (.istore_n 2, 1) := by decide +kernel
theorem d_Strata_join_27 : decode c_Strata_join 27 = .ok (.iload_n 2, 1) := by decide +kernel
theorem d_Strata_join_28 : decode c_Strata_join 28 = .ok (.aload_n 1, 1) := by decide +kernel
theorem d_Strata_join_29 : decode c_Strata_join 29 = .ok (.invokevirtual 53, 3) := by decide +kernel
theorem d_Strata_join_32 : decode c_Strata_join 32 = .ok (.if_icmp .ge 64, 3) := by decide +kernel
theorem d_Strata_join_35 : decode c_Strata_join 35 = .ok (.aload_n 1, 1) := by decide +kernel
theorem d_Strata_join_36 : decode c_Strata_join 36 = .ok (.iload_n 2, 1) := by decide +kernel
theorem d_Strata_join_37 : decode c_Strata_join 37 = .ok (.invokevirtual 59, 3) := by decide +kernel
theorem d_Strata_join_40 : decode c_Strata_join 40 = .ok (.iconst 3, 1) := by decide +kernel
theorem d_Strata_join_41 : decode c_Strata_join 41 = .ok (.if_icmp .ne 49, 3) := by decide +kernel
theorem d_Strata_join_44 : decode c_Strata_join 44 = .ok (.aload_n 0, 1) := by decide +kernel
theorem d_Strata_join_45 : decode c_Strata_join 45 = .ok (.getfield 14, 3) := by decide +kernel
theorem d_Strata_join_48 : decode c_Strata_join 48 = .ok (.aload_n 1, 1) := by decide +kernel
theorem d_Strata_join_49 : decode c_Strata_join 49 = .ok (.iload_n 2, 1) := by decide +kernel
theorem d_Strata_join_50 : decode c_Strata_join 50 = .ok (.invokevirtual 62, 3) := by decide +kernel
theorem d_Strata_join_53 : decode c_Strata_join 53 = .ok (.invokevirtual 38, 3) := by decide +kernel
theorem d_Strata_join_56 : decode c_Strata_join 56 = .ok (.istore_n 3, 1) := by decide +kernel
theorem d_Strata_join_57 : decode c_Strata_join 57 = .ok (.aload_n 0, 1) := by decide +kernel
theorem d_Strata_join_58 : decode c_Strata_join 58 = .ok (.getfield 14, 3) := by decide +kernel
theorem d_Strata_join_61 : decode c_Strata_join 61 = .ok (.aload_n 1, 1) := by decide +kernel
theorem d_Strata_join_62 : decode c_Strata_join 62 = .ok (.iload_n 2, 1) := by decide +kernel
theorem d_Strata_join_63 : decode c_Strata_join 63 = .ok (.invokevirtual 65, 3) := by decide +kernel
theorem d_Strata_join_66 : decode c_Strata_join 66 = .ok (.invokevirtual 38, 3) := by decide +kernel
theorem d_Strata_join_69 : decode c_Strata_join 69 = .ok (.istore 4, 2) := by decide +kernel
theorem d_Strata_join_71 : decode c_Strata_join 71 = .ok (.aload_n 0, 1) := by decide +kernel
theorem d_Strata_join_72 : decode c_Strata_join 72 = .ok (.getfield 14, 3) := by decide +kernel
theorem d_Strata_join_75 : decode c_Strata_join 75 = .ok (.iload_n 3, 1) := by decide +kernel
theorem d_Strata_join_76 : decode c_Strata_join 76 = .ok (.iload 4, 2) := by decide +kernel
theorem d_Strata_join_78 : decode c_Strata_join 78 = .ok (.invokestatic 75, 3) := by decide +kernel
theorem d_Strata_join_81 : decode c_Strata_join 81 = .ok (.iload_n 3, 1) := by decide +kernel
theorem d_Strata_join_82 : decode c_Strata_join 82 = .ok (.iload 4, 2) := by decide +kernel
theorem d_Strata_join_84 : decode c_Strata_join 84 = .ok (.invokestatic 81, 3) := by decide +kernel
theorem d_Strata_join_87 : decode c_Strata_join 87 = .ok (.invokevirtual 84, 3) := by decide +kernel
theorem d_Strata_join_90 : decode c_Strata_join 90 = .ok (.iinc 2 1, 3) := by decide +kernel
theorem d_Strata_join_93 : decode c_Strata_join 93 = .ok (.goto (-66), 3) := by decide +kernel
theorem d_Strata_join_96 : decode c_Strata_join 96 = .ok (.return_, 1) := by decide +kernel
theorem d_Strata_tellRingWith_0 : decode c_Strata_tellRingWith 0 = .ok (.aload_n 0, 1) := by decide +kernel
theorem d_Strata_tellRingWith_1 : decode c_Strata_tellRingWith 1 = .ok (.getfield 23, 3) := by decide +kernel
theorem d_Strata_tellRingWith_4 : decode c_Strata_tellRingWith 4 = .ok (.iload_n 1, 1) := by decide +kernel
theorem d_Strata_tellRingWith_5 : decode c_Strata_tellRingWith 5 = .ok (.invokevirtual 87, 3) := by decide +kernel
theorem d_Strata_tellRingWith_8 : decode c_Strata_tellRingWith 8 = .ok (.lstore 5, 2) := by decide +kernel
theorem d_Strata_tellRingWith_10 : decode c_Strata_tellRingWith 10 = .ok (.aload_n 0, 1) := by decide +kernel
theorem d_Strata_tellRingWith_11 : decode c_Strata_tellRingWith 11 = .ok (.getfield 23, 3) := by decide +kernel
theorem d_Strata_tellRingWith_14 : decode c_Strata_tellRingWith 14 = .ok (.iload_n 1, 1) := by decide +kernel
theorem d_Strata_tellRingWith_15 : decode c_Strata_tellRingWith 15 = .ok (.iload_n 2, 1) := by decide +kernel
theorem d_Strata_tellRingWith_16 : decode c_Strata_tellRingWith 16 = .ok (.invokevirtual 68, 3) := by decide +kernel
theorem d_Strata_tellRingWith_19 : decode c_Strata_tellRingWith 19 = .ok (.aload 4, 2) := by decide +kernel
theorem d_Strata_tellRingWith_21 : decode c_Strata_tellRingWith 21 = .ok (.aload_n 0, 1) := by decide +kernel
theorem d_Strata_tellRingWith_22 : decode c_Strata_tellRingWith 22 = .ok (.getfield 23, 3) := by decide +kernel
theorem d_Strata_tellRingWith_25 : decode c_Strata_tellRingWith 25 = .ok (.iload_n 3, 1) := by decide +kernel
theorem d_Strata_tellRingWith_26 : decode c_Strata_tellRingWith 26 = .ok (.invokevirtual 91, 3) := by decide +kernel
theorem d_Strata_tellRingWith_29 : decode c_Strata_tellRingWith 29 = .ok (.istore 7, 2) := by decide +kernel
theorem d_Strata_tellRingWith_31 : decode c_Strata_tellRingWith 31 = .ok (.aload_n 0, 1) := by decide +kernel
theorem d_Strata_tellRingWith_32 : decode c_Strata_tellRingWith 32 = .ok (.getfield 23, 3) := by decide +kernel
theorem d_Strata_tellRingWith_35 : decode c_Strata_tellRingWith 35 = .ok (.iload_n 1, 1) := by decide +kernel
theorem d_Strata_tellRingWith_36 : decode c_Strata_tellRingWith 36 = .ok (.lload 5, 2) := by decide +kernel
theorem d_Strata_tellRingWith_38 : decode c_Strata_tellRingWith 38 = .ok (.invokevirtual 97, 3) := by decide +kernel
theorem d_Strata_tellRingWith_41 : decode c_Strata_tellRingWith 41 = .ok (.iload 7, 2) := by decide +kernel
theorem d_Strata_tellRingWith_43 : decode c_Strata_tellRingWith 43 = .ok (.ireturn, 1) := by decide +kernel
theorem d_Strata_areJoined_0 : decode c_Strata_areJoined 0 = .ok (.aload_n 0, 1) := by decide +kernel
theorem d_Strata_areJoined_1 : decode c_Strata_areJoined 1 = .ok (.getfield 14, 3) := by decide +kernel
theorem d_Strata_areJoined_4 : decode c_Strata_areJoined 4 = .ok (.iload_n 1, 1) := by decide +kernel
theorem d_Strata_areJoined_5 : decode c_Strata_areJoined 5 = .ok (.invokevirtual 38, 3) := by decide +kernel
theorem d_Strata_areJoined_8 : decode c_Strata_areJoined 8 = .ok (.aload_n 0, 1) := by decide +kernel
theorem d_Strata_areJoined_9 : decode c_Strata_areJoined 9 = .ok (.getfield 14, 3) := by decide +kernel
theorem d_Strata_areJoined_12 : decode c_Strata_areJoined 12 = .ok (.iload_n 2, 1) := by decide +kernel
theorem d_Strata_areJoined_13 : decode c_Strata_areJoined 13 = .ok (.invokevirtual 38, 3) := by decide +kernel
theorem d_Strata_areJoined_16 : decode c_Strata_areJoined 16 = .ok (.if_icmp .ne 7, 3) := by decide +kernel
theorem d_Strata_areJoined_19 : decode c_Strata_areJoined 19 = .ok (.iconst 1, 1) := by decide +kernel
theorem d_Strata_areJoined_20 : decode c_Strata_areJoined 20 = .ok (.goto 4, 3) := by decide +kernel
theorem d_Strata_areJoined_23 : decode c_Strata_areJoined 23 = .ok (.iconst 0, 1) := by decide +kernel
theorem d_Strata_areJoined_24 : decode c_Strata_areJoined 24 = .ok (.ireturn, 1) := by decide +kernel
theorem d_Strata_areContemporary_0 : decode c_Strata_areContemporary 0 = .ok (.aload_n 0, 1) := by decide +kernel
theorem d_Strata_areContemporary_1 : decode c_Strata_areContemporary 1 = .ok (.iload_n 1, 1) := by decide +kernel
theorem d_Strata_areContemporary_2 : decode c_Strata_areContemporary 2 = .ok (.iload_n 2, 1) := by decide +kernel
theorem d_Strata_areContemporary_3 : decode c_Strata_areContemporary 3 = .ok (.invokevirtual 100, 3) := by decide +kernel
theorem d_Strata_areContemporary_6 : decode c_Strata_areContemporary 6 = .ok (.ifCond .eq 5, 3) := by decide +kernel
theorem d_Strata_areContemporary_9 : decode c_Strata_areContemporary 9 = .ok (.iconst 1, 1) := by decide +kernel
theorem d_Strata_areContemporary_10 : decode c_Strata_areContemporary 10 = .ok (.ireturn, 1) := by decide +kernel
theorem d_Strata_areContemporary_11 : decode c_Strata_areContemporary 11 = .ok (.iconst 0, 1) := by decide +kernel
theorem d_Strata_areContemporary_12 : decode c_Strata_areContemporary 12 = .ok (.istore 4, 2) := by decide +kernel
theorem d_Strata_areContemporary_14 : decode c_Strata_areContemporary 14 = .ok (.iload 4, 2) := by decide +kernel
theorem d_Strata_areContemporary_16 : decode c_Strata_areContemporary 16 = .ok (.aload_n 3, 1) := by decide +kernel
theorem d_Strata_areContemporary_17 : decode c_Strata_areContemporary 17 = .ok (.invokevirtual 53, 3) := by decide +kernel
theorem d_Strata_areContemporary_20 : decode c_Strata_areContemporary 20 = .ok (.if_icmp .ge 77, 3) := by decide +kernel
theorem d_Strata_areContemporary_23 : decode c_Strata_areContemporary 23 = .ok (.aload_n 3, 1) := by decide +kernel
theorem d_Strata_areContemporary_24 : decode c_Strata_areContemporary 24 = .ok (.iload 4, 2) := by decide +kernel
theorem d_Strata_areContemporary_26 : decode c_Strata_areContemporary 26 = .ok (.invokevirtual 59, 3) := by decide +kernel
theorem d_Strata_areContemporary_29 : decode c_Strata_areContemporary 29 = .ok (.iconst 4, 1) := by decide +kernel
theorem d_Strata_areContemporary_30 : decode c_Strata_areContemporary 30 = .ok (.if_icmp .ne 61, 3) := by decide +kernel
theorem d_Strata_areContemporary_33 : decode c_Strata_areContemporary 33 = .ok (.aload_n 3, 1) := by decide +kernel
theorem d_Strata_areContemporary_34 : decode c_Strata_areContemporary 34 = .ok (.iload 4, 2) := by decide +kernel
theorem d_Strata_areContemporary_36 : decode c_Strata_areContemporary 36 = .ok (.invokevirtual 62, 3) := by decide +kernel
theorem d_Strata_areContemporary_39 : decode c_Strata_areContemporary 39 = .ok (.istore 5, 2) := by decide +kernel
theorem d_Strata_areContemporary_41 : decode c_Strata_areContemporary 41 = .ok (.aload_n 3, 1) := by decide +kernel
theorem d_Strata_areContemporary_42 : decode c_Strata_areContemporary 42 = .ok (.iload 4, 2) := by decide +kernel
theorem d_Strata_areContemporary_44 : decode c_Strata_areContemporary 44 = .ok (.invokevirtual 65, 3) := by decide +kernel
theorem d_Strata_areContemporary_47 : decode c_Strata_areContemporary 47 = .ok (.istore 6, 2) := by decide +kernel
theorem d_Strata_areContemporary_49 : decode c_Strata_areContemporary 49 = .ok (.aload_n 0, 1) := by decide +kernel
theorem d_Strata_areContemporary_50 : decode c_Strata_areContemporary 50 = .ok (.iload_n 1, 1) := by decide +kernel
theorem d_Strata_areContemporary_51 : decode c_Strata_areContemporary 51 = .ok (.iload 5, 2) := by decide +kernel
theorem d_Strata_areContemporary_53 : decode c_Strata_areContemporary 53 = .ok (.invokevirtual 100, 3) := by decide +kernel
theorem d_Strata_areContemporary_56 : decode c_Strata_areContemporary 56 = .ok (.ifCond .eq 13, 3) := by decide +kernel
theorem d_Strata_areContemporary_59 : decode c_Strata_areContemporary 59 = .ok (.aload_n 0, 1) := by decide +kernel
theorem d_Strata_areContemporary_60 : decode c_Strata_areContemporary 60 = .ok (.iload_n 2, 1) := by decide +kernel
theorem d_Strata_areContemporary_61 : decode c_Strata_areContemporary 61 = .ok (.iload 6, 2) := by decide +kernel
theorem d_Strata_areContemporary_63 : decode c_Strata_areContemporary 63 = .ok (.invokevirtual 100, 3) := by decide +kernel
theorem d_Strata_areContemporary_66 : decode c_Strata_areContemporary 66 = .ok (.ifCond .ne 23, 3) := by decide +kernel
theorem d_Strata_areContemporary_69 : decode c_Strata_areContemporary 69 = .ok (.aload_n 0, 1) := by decide +kernel
theorem d_Strata_areContemporary_70 : decode c_Strata_areContemporary 70 = .ok (.iload_n 1, 1) := by decide +kernel
theorem d_Strata_areContemporary_71 : decode c_Strata_areContemporary 71 = .ok (.iload 6, 2) := by decide +kernel
theorem d_Strata_areContemporary_73 : decode c_Strata_areContemporary 73 = .ok (.invokevirtual 100, 3) := by decide +kernel
theorem d_Strata_areContemporary_76 : decode c_Strata_areContemporary 76 = .ok (.ifCond .eq 15, 3) := by decide +kernel
theorem d_Strata_areContemporary_79 : decode c_Strata_areContemporary 79 = .ok (.aload_n 0, 1) := by decide +kernel
theorem d_Strata_areContemporary_80 : decode c_Strata_areContemporary 80 = .ok (.iload_n 2, 1) := by decide +kernel
theorem d_Strata_areContemporary_81 : decode c_Strata_areContemporary 81 = .ok (.iload 5, 2) := by decide +kernel
theorem d_Strata_areContemporary_83 : decode c_Strata_areContemporary 83 = .ok (.invokevirtual 100, 3) := by decide +kernel
theorem d_Strata_areContemporary_86 : decode c_Strata_areContemporary 86 = .ok (.ifCond .eq 5, 3) := by decide +kernel
theorem d_Strata_areContemporary_89 : decode c_Strata_areContemporary 89 = .ok (.iconst 1, 1) := by decide +kernel
theorem d_Strata_areContemporary_90 : decode c_Strata_areContemporary 90 = .ok (.ireturn, 1) := by decide +kernel
theorem d_Strata_areContemporary_91 : decode c_Strata_areContemporary 91 = .ok (.iinc 4 1, 3) := by decide +kernel
theorem d_Strata_areContemporary_94 : decode c_Strata_areContemporary 94 = .ok (.goto (-80), 3) := by decide +kernel
theorem d_Strata_areContemporary_97 : decode c_Strata_areContemporary 97 = .ok (.iconst 0, 1) := by decide +kernel
theorem d_Strata_areContemporary_98 : decode c_Strata_areContemporary 98 = .ok (.ireturn, 1) := by decide +kernel
theorem d_Strata_linksUnder_0 : decode c_Strata_linksUnder 0 = .ok (.aload_n 0, 1) := by decide +kernel
theorem d_Strata_linksUnder_1 : decode c_Strata_linksUnder 1 = .ok (.getfield 27, 3) := by decide +kernel
theorem d_Strata_linksUnder_4 : decode c_Strata_linksUnder 4 = .ok (.iload_n 1, 1) := by decide +kernel
theorem d_Strata_linksUnder_5 : decode c_Strata_linksUnder 5 = .ok (.invokevirtual 87, 3) := by decide +kernel
theorem d_Strata_linksUnder_8 : decode c_Strata_linksUnder 8 = .ok (.lstore_n 2, 1) := by decide +kernel
theorem d_Strata_linksUnder_9 : decode c_Strata_linksUnder 9 = .ok (.lconst 0, 1) := by decide +kernel
theorem d_Strata_linksUnder_10 : decode c_Strata_linksUnder 10 = .ok (.lstore 4, 2) := by decide +kernel
theorem d_Strata_linksUnder_12 : decode c_Strata_linksUnder 12 = .ok (.iconst 0, 1) := by decide +kernel
theorem d_Strata_linksUnder_13 : decode c_Strata_linksUnder 13 = .ok (.istore 6, 2) := by decide +kernel
theorem d_Strata_linksUnder_15 : decode c_Strata_linksUnder 15 = .ok (.iload 6, 2) := by decide +kernel
theorem d_Strata_linksUnder_17 : decode c_Strata_linksUnder 17 = .ok (.aload_n 0, 1) := by decide +kernel
theorem d_Strata_linksUnder_18 : decode c_Strata_linksUnder 18 = .ok (.getfield 30, 3) := by decide +kernel
theorem d_Strata_linksUnder_21 : decode c_Strata_linksUnder 21 = .ok (.if_icmp .ge 36, 3) := by decide +kernel
theorem d_Strata_linksUnder_24 : decode c_Strata_linksUnder 24 = .ok (.aload_n 0, 1) := by decide +kernel
theorem d_Strata_linksUnder_25 : decode c_Strata_linksUnder 25 = .ok (.getfield 27, 3) := by decide +kernel
theorem d_Strata_linksUnder_28 : decode c_Strata_linksUnder 28 = .ok (.iload_n 1, 1) := by decide +kernel
theorem d_Strata_linksUnder_29 : decode c_Strata_linksUnder 29 = .ok (.iload 6, 2) := by decide +kernel
theorem d_Strata_linksUnder_31 : decode c_Strata_linksUnder 31 = .ok (.invokevirtual 42, 3) := by decide +kernel
theorem d_Strata_linksUnder_34 : decode c_Strata_linksUnder 34 = .ok (.ifCond .eq 17, 3) := by decide +kernel
theorem d_Strata_linksUnder_37 : decode c_Strata_linksUnder 37 = .ok (.lload 4, 2) := by decide +kernel
theorem d_Strata_linksUnder_39 : decode c_Strata_linksUnder 39 = .ok (.aload_n 0, 1) := by decide +kernel
theorem d_Strata_linksUnder_40 : decode c_Strata_linksUnder 40 = .ok (.getfield 27, 3) := by decide +kernel
theorem d_Strata_linksUnder_43 : decode c_Strata_linksUnder 43 = .ok (.iload 6, 2) := by decide +kernel
theorem d_Strata_linksUnder_45 : decode c_Strata_linksUnder 45 = .ok (.invokevirtual 87, 3) := by decide +kernel
theorem d_Strata_linksUnder_48 : decode c_Strata_linksUnder 48 = .ok (.lor, 1) := by decide +kernel
theorem d_Strata_linksUnder_49 : decode c_Strata_linksUnder 49 = .ok (.lstore 4, 2) := by decide +kernel
theorem d_Strata_linksUnder_51 : decode c_Strata_linksUnder 51 = .ok (.iinc 6 1, 3) := by decide +kernel
theorem d_Strata_linksUnder_54 : decode c_Strata_linksUnder 54 = .ok (.goto (-39), 3) := by decide +kernel
theorem d_Strata_linksUnder_57 : decode c_Strata_linksUnder 57 = .ok (.lload_n 2, 1) := by decide +kernel
theorem d_Strata_linksUnder_58 : decode c_Strata_linksUnder 58 = .ok (.lload 4, 2) := by decide +kernel
theorem d_Strata_linksUnder_60 : decode c_Strata_linksUnder 60 = .ok (.ldc2_w 103, 3) := by decide +kernel
theorem d_Strata_linksUnder_63 : decode c_Strata_linksUnder 63 = .ok (.lxor, 1) := by decide +kernel
theorem d_Strata_linksUnder_64 : decode c_Strata_linksUnder 64 = .ok (.land, 1) := by decide +kernel
theorem d_Strata_linksUnder_65 : decode c_Strata_linksUnder 65 = .ok (.lreturn, 1) := by decide +kernel
theorem d_Strata_linkCount_0 : decode c_Strata_linkCount 0 = .ok (.iconst 0, 1) := by decide +kernel
theorem d_Strata_linkCount_1 : decode c_Strata_linkCount 1 = .ok (.istore_n 1, 1) := by decide +kernel
theorem d_Strata_linkCount_2 : decode c_Strata_linkCount 2 = .ok (.iconst 0, 1) := by decide +kernel
theorem d_Strata_linkCount_3 : decode c_Strata_linkCount 3 = .ok (.istore_n 2, 1) := by decide +kernel
theorem d_Strata_linkCount_4 : decode c_Strata_linkCount 4 = .ok (.iload_n 2, 1) := by decide +kernel
theorem d_Strata_linkCount_5 : decode c_Strata_linkCount 5 = .ok (.aload_n 0, 1) := by decide +kernel
theorem d_Strata_linkCount_6 : decode c_Strata_linkCount 6 = .ok (.getfield 30, 3) := by decide +kernel
theorem d_Strata_linkCount_9 : decode c_Strata_linkCount 9 = .ok (.if_icmp .ge 20, 3) := by decide +kernel
theorem d_Strata_linkCount_12 : decode c_Strata_linkCount 12 = .ok (.iload_n 1, 1) := by decide +kernel
theorem d_Strata_linkCount_13 : decode c_Strata_linkCount 13 = .ok (.aload_n 0, 1) := by decide +kernel
theorem d_Strata_linkCount_14 : decode c_Strata_linkCount 14 = .ok (.iload_n 2, 1) := by decide +kernel
theorem d_Strata_linkCount_15 : decode c_Strata_linkCount 15 = .ok (.invokevirtual 105, 3) := by decide +kernel
theorem d_Strata_linkCount_18 : decode c_Strata_linkCount 18 = .ok (.invokestatic 108, 3) := by decide +kernel
theorem d_Strata_linkCount_21 : decode c_Strata_linkCount 21 = .ok (.iadd, 1) := by decide +kernel
theorem d_Strata_linkCount_22 : decode c_Strata_linkCount 22 = .ok (.istore_n 1, 1) := by decide +kernel
theorem d_Strata_linkCount_23 : decode c_Strata_linkCount 23 = .ok (.iinc 2 1, 3) := by decide +kernel
theorem d_Strata_linkCount_26 : decode c_Strata_linkCount 26 = .ok (.goto (-22), 3) := by decide +kernel
theorem d_Strata_linkCount_29 : decode c_Strata_linkCount 29 = .ok (.iload_n 1, 1) := by decide +kernel
theorem d_Strata_linkCount_30 : decode c_Strata_linkCount 30 = .ok (.ireturn, 1) := by decide +kernel
theorem d_Strata_linkEnd_0 : decode c_Strata_linkEnd 0 = .ok (.iload_n 1, 1) := by decide +kernel
theorem d_Strata_linkEnd_1 : decode c_Strata_linkEnd 1 = .ok (.istore_n 3, 1) := by decide +kernel
theorem d_Strata_linkEnd_2 : decode c_Strata_linkEnd 2 = .ok (.iconst 0, 1) := by decide +kernel
theorem d_Strata_linkEnd_3 : decode c_Strata_linkEnd 3 = .ok (.istore 4, 2) := by decide +kernel
theorem d_Strata_linkEnd_5 : decode c_Strata_linkEnd 5 = .ok (.iload 4, 2) := by decide +kernel
theorem d_Strata_linkEnd_7 : decode c_Strata_linkEnd 7 = .ok (.aload_n 0, 1) := by decide +kernel
theorem d_Strata_linkEnd_8 : decode c_Strata_linkEnd 8 = .ok (.getfield 30, 3) := by decide +kernel
theorem d_Strata_linkEnd_11 : decode c_Strata_linkEnd 11 = .ok (.if_icmp .ge 51, 3) := by decide +kernel
theorem d_Strata_linkEnd_14 : decode c_Strata_linkEnd 14 = .ok (.aload_n 0, 1) := by decide +kernel
theorem d_Strata_linkEnd_15 : decode c_Strata_linkEnd 15 = .ok (.iload 4, 2) := by decide +kernel
theorem d_Strata_linkEnd_17 : decode c_Strata_linkEnd 17 = .ok (.invokevirtual 105, 3) := by decide +kernel
theorem d_Strata_linkEnd_20 : decode c_Strata_linkEnd 20 = .ok (.lstore 5, 2) := by decide +kernel
theorem d_Strata_linkEnd_22 : decode c_Strata_linkEnd 22 = .ok (.lload 5, 2) := by decide +kernel
theorem d_Strata_linkEnd_24 : decode c_Strata_linkEnd 24 = .ok (.invokestatic 108, 3) := by decide +kernel
theorem d_Strata_linkEnd_27 : decode c_Strata_linkEnd 27 = .ok (.istore 7, 2) := by decide +kernel
theorem d_Strata_linkEnd_29 : decode c_Strata_linkEnd 29 = .ok (.iload_n 3, 1) := by decide +kernel
theorem d_Strata_linkEnd_30 : decode c_Strata_linkEnd 30 = .ok (.iload 7, 2) := by decide +kernel
theorem d_Strata_linkEnd_32 : decode c_Strata_linkEnd 32 = .ok (.if_icmp .ge 19, 3) := by decide +kernel
theorem d_Strata_linkEnd_35 : decode c_Strata_linkEnd 35 = .ok (.iload_n 2, 1) := by decide +kernel
theorem d_Strata_linkEnd_36 : decode c_Strata_linkEnd 36 = .ok (.ifCond .eq 8, 3) := by decide +kernel
theorem d_Strata_linkEnd_39 : decode c_Strata_linkEnd 39 = .ok (.iload 4, 2) := by decide +kernel
theorem d_Strata_linkEnd_41 : decode c_Strata_linkEnd 41 = .ok (.goto 9, 3) := by decide +kernel
theorem d_Strata_linkEnd_44 : decode c_Strata_linkEnd 44 = .ok (.lload 5, 2) := by decide +kernel
theorem d_Strata_linkEnd_46 : decode c_Strata_linkEnd 46 = .ok (.iload_n 3, 1) := by decide +kernel
theorem d_Strata_linkEnd_47 : decode c_Strata_linkEnd 47 = .ok (.invokestatic 114, 3) := by decide +kernel
theorem d_Strata_linkEnd_50 : decode c_Strata_linkEnd 50 = .ok (.ireturn, 1) := by decide +kernel
theorem d_Strata_linkEnd_51 : decode c_Strata_linkEnd 51 = .ok (.iload_n 3, 1) := by decide +kernel
theorem d_Strata_linkEnd_52 : decode c_Strata_linkEnd 52 = .ok (.iload 7, 2) := by decide +kernel
theorem d_Strata_linkEnd_54 : decode c_Strata_linkEnd 54 = .ok (.isub, 1) := by decide +kernel
theorem d_Strata_linkEnd_55 : decode c_Strata_linkEnd 55 = .ok (.istore_n 3, 1) := by decide +kernel
theorem d_Strata_linkEnd_56 : decode c_Strata_linkEnd 56 = .ok (.iinc 4 1, 3) := by decide +kernel
theorem d_Strata_linkEnd_59 : decode c_Strata_linkEnd 59 = .ok (.goto (-54), 3) := by decide +kernel
theorem d_Strata_linkEnd_62 : decode c_Strata_linkEnd 62 = .ok (.iconst (-1), 1) := by decide +kernel
theorem d_Strata_linkEnd_63 : decode c_Strata_linkEnd 63 = .ok (.ireturn, 1) := by decide +kernel
theorem d_Strata_chainAbove_0 : decode c_Strata_chainAbove 0 = .ok (.aload_n 0, 1) := by decide +kernel
theorem d_Strata_chainAbove_1 : decode c_Strata_chainAbove 1 = .ok (.getfield 27, 3) := by decide +kernel
theorem d_Strata_chainAbove_4 : decode c_Strata_chainAbove 4 = .ok (.lconst 1, 1) := by decide +kernel
theorem d_Strata_chainAbove_5 : decode c_Strata_chainAbove 5 = .ok (.aload_n 0, 1) := by decide +kernel
theorem d_Strata_chainAbove_6 : decode c_Strata_chainAbove 6 = .ok (.getfield 14, 3) := by decide +kernel
theorem d_Strata_chainAbove_9 : decode c_Strata_chainAbove 9 = .ok (.iload_n 1, 1) := by decide +kernel
theorem d_Strata_chainAbove_10 : decode c_Strata_chainAbove 10 = .ok (.invokevirtual 38, 3) := by decide +kernel
theorem d_Strata_chainAbove_13 : decode c_Strata_chainAbove 13 = .ok (.lshl, 1) := by decide +kernel
theorem d_Strata_chainAbove_14 : decode c_Strata_chainAbove 14 = .ok (.invokevirtual 118, 3) := by decide +kernel
theorem d_Strata_chainAbove_17 : decode c_Strata_chainAbove 17 = .ok (.lstore_n 2, 1) := by decide +kernel
theorem d_Strata_chainAbove_18 : decode c_Strata_chainAbove 18 = .ok (.iconst 0, 1) := by decide +kernel
theorem d_Strata_chainAbove_19 : decode c_Strata_chainAbove 19 = .ok (.istore 4, 2) := by decide +kernel
theorem d_Strata_chainAbove_21 : decode c_Strata_chainAbove 21 = .ok (.iload 4, 2) := by decide +kernel
theorem d_Strata_chainAbove_23 : decode c_Strata_chainAbove 23 = .ok (.bipush 48, 2) := by decide +kernel
theorem d_Strata_chainAbove_25 : decode c_Strata_chainAbove 25 = .ok (.if_icmp .ge 26, 3) := by decide +kernel
theorem d_Strata_chainAbove_28 : decode c_Strata_chainAbove 28 = .ok (.lload_n 2, 1) := by decide +kernel
theorem d_Strata_chainAbove_29 : decode c_Strata_chainAbove 29 = .ok (.lconst 0, 1) := by decide +kernel
theorem d_Strata_chainAbove_30 : decode c_Strata_chainAbove 30 = .ok (.lcmp, 1) := by decide +kernel
theorem d_Strata_chainAbove_31 : decode c_Strata_chainAbove 31 = .ok (.ifCond .eq 20, 3) := by decide +kernel
theorem d_Strata_chainAbove_34 : decode c_Strata_chainAbove 34 = .ok (.lload_n 2, 1) := by decide +kernel
theorem d_Strata_chainAbove_35 : decode c_Strata_chainAbove 35 = .ok (.aload_n 0, 1) := by decide +kernel
theorem d_Strata_chainAbove_36 : decode c_Strata_chainAbove 36 = .ok (.getfield 27, 3) := by decide +kernel
theorem d_Strata_chainAbove_39 : decode c_Strata_chainAbove 39 = .ok (.lload_n 2, 1) := by decide +kernel
theorem d_Strata_chainAbove_40 : decode c_Strata_chainAbove 40 = .ok (.invokevirtual 118, 3) := by decide +kernel
theorem d_Strata_chainAbove_43 : decode c_Strata_chainAbove 43 = .ok (.land, 1) := by decide +kernel
theorem d_Strata_chainAbove_44 : decode c_Strata_chainAbove 44 = .ok (.lstore_n 2, 1) := by decide +kernel
theorem d_Strata_chainAbove_45 : decode c_Strata_chainAbove 45 = .ok (.iinc 4 1, 3) := by decide +kernel
theorem d_Strata_chainAbove_48 : decode c_Strata_chainAbove 48 = .ok (.goto (-27), 3) := by decide +kernel
theorem d_Strata_chainAbove_51 : decode c_Strata_chainAbove 51 = .ok (.iload 4, 2) := by decide +kernel
theorem d_Strata_chainAbove_53 : decode c_Strata_chainAbove 53 = .ok (.ireturn, 1) := by decide +kernel
theorem d_Strata_joinedCount_0 : decode c_Strata_joinedCount 0 = .ok (.iconst 0, 1) := by decide +kernel
theorem d_Strata_joinedCount_1 : decode c_Strata_joinedCount 1 = .ok (.istore_n 1, 1) := by decide +kernel
theorem d_Strata_joinedCount_2 : decode c_Strata_joinedCount 2 = .ok (.iconst 0, 1) := by decide +kernel
theorem d_Strata_joinedCount_3 : decode c_Strata_joinedCount 3 = .ok (.istore_n 2, 1) := by decide +kernel
theorem d_Strata_joinedCount_4 : decode c_Strata_joinedCount 4 = .ok (.iload_n 2, 1) := by decide +kernel
theorem d_Strata_joinedCount_5 : decode c_Strata_joinedCount 5 = .ok (.aload_n 0, 1) := by decide +kernel
theorem d_Strata_joinedCount_6 : decode c_Strata_joinedCount 6 = .ok (.getfield 30, 3) := by decide +kernel
theorem d_Strata_joinedCount_9 : decode c_Strata_joinedCount 9 = .ok (.if_icmp .ge 24, 3) := by decide +kernel
theorem d_Strata_joinedCount_12 : decode c_Strata_joinedCount 12 = .ok (.aload_n 0, 1) := by decide +kernel
theorem d_Strata_joinedCount_13 : decode c_Strata_joinedCount 13 = .ok (.getfield 14, 3) := by decide +kernel
theorem d_Strata_joinedCount_16 : decode c_Strata_joinedCount 16 = .ok (.iload_n 2, 1) := by decide +kernel
theorem d_Strata_joinedCount_17 : decode c_Strata_joinedCount 17 = .ok (.invokevirtual 38, 3) := by decide +kernel
theorem d_Strata_joinedCount_20 : decode c_Strata_joinedCount 20 = .ok (.iload_n 2, 1) := by decide +kernel
theorem d_Strata_joinedCount_21 : decode c_Strata_joinedCount 21 = .ok (.if_icmp .ne 6, 3) := by decide +kernel
theorem d_Strata_joinedCount_24 : decode c_Strata_joinedCount 24 = .ok (.iinc 1 1, 3) := by decide +kernel
theorem d_Strata_joinedCount_27 : decode c_Strata_joinedCount 27 = .ok (.iinc 2 1, 3) := by decide +kernel
theorem d_Strata_joinedCount_30 : decode c_Strata_joinedCount 30 = .ok (.goto (-26), 3) := by decide +kernel
theorem d_Strata_joinedCount_33 : decode c_Strata_joinedCount 33 = .ok (.iload_n 1, 1) := by decide +kernel
theorem d_Strata_joinedCount_34 : decode c_Strata_joinedCount 34 = .ok (.ireturn, 1) := by decide +kernel
theorem d_Strata_pairCount_0 : decode c_Strata_pairCount 0 = .ok (.iconst 0, 1) := by decide +kernel
theorem d_Strata_pairCount_1 : decode c_Strata_pairCount 1 = .ok (.istore_n 1, 1) := by decide +kernel
theorem d_Strata_pairCount_2 : decode c_Strata_pairCount 2 = .ok (.iconst 0, 1) := by decide +kernel
theorem d_Strata_pairCount_3 : decode c_Strata_pairCount 3 = .ok (.istore_n 2, 1) := by decide +kernel
theorem d_Strata_pairCount_4 : decode c_Strata_pairCount 4 = .ok (.iload_n 2, 1) := by decide +kernel
theorem d_Strata_pairCount_5 : decode c_Strata_pairCount 5 = .ok (.aload_n 0, 1) := by decide +kernel
theorem d_Strata_pairCount_6 : decode c_Strata_pairCount 6 = .ok (.getfield 30, 3) := by decide +kernel
theorem d_Strata_pairCount_9 : decode c_Strata_pairCount 9 = .ok (.if_icmp .ge 23, 3) := by decide +kernel
theorem d_Strata_pairCount_12 : decode c_Strata_pairCount 12 = .ok (.iload_n 1, 1) := by decide +kernel
theorem d_Strata_pairCount_13 : decode c_Strata_pairCount 13 = .ok (.aload_n 0, 1) := by decide +kernel
theorem d_Strata_pairCount_14 : decode c_Strata_pairCount 14 = .ok (.getfield 27, 3) := by decide +kernel
theorem d_Strata_pairCount_17 : decode c_Strata_pairCount 17 = .ok (.iload_n 2, 1) := by decide +kernel
theorem d_Strata_pairCount_18 : decode c_Strata_pairCount 18 = .ok (.invokevirtual 87, 3) := by decide +kernel
theorem d_Strata_pairCount_21 : decode c_Strata_pairCount 21 = .ok (.invokestatic 108, 3) := by decide +kernel
theorem d_Strata_pairCount_24 : decode c_Strata_pairCount 24 = .ok (.iadd, 1) := by decide +kernel
theorem d_Strata_pairCount_25 : decode c_Strata_pairCount 25 = .ok (.istore_n 1, 1) := by decide +kernel
theorem d_Strata_pairCount_26 : decode c_Strata_pairCount 26 = .ok (.iinc 2 1, 3) := by decide +kernel
theorem d_Strata_pairCount_29 : decode c_Strata_pairCount 29 = .ok (.goto (-25), 3) := by decide +kernel
theorem d_Strata_pairCount_32 : decode c_Strata_pairCount 32 = .ok (.iload_n 1, 1) := by decide +kernel
theorem d_Strata_pairCount_33 : decode c_Strata_pairCount 33 = .ok (.ireturn, 1) := by decide +kernel
theorem d_Groups_init_0 : decode c_Groups_init 0 = .ok (.aload_n 0, 1) := by decide +kernel
theorem d_Groups_init_1 : decode c_Groups_init 1 = .ok (.invokespecial 3, 3) := by decide +kernel
theorem d_Groups_init_4 : decode c_Groups_init 4 = .ok (.aload_n 0, 1) := by decide +kernel
theorem d_Groups_init_5 : decode c_Groups_init 5 = .ok (.new 9, 3) := by decide +kernel
theorem d_Groups_init_8 : decode c_Groups_init 8 = .ok (.dup, 1) := by decide +kernel
theorem d_Groups_init_9 : decode c_Groups_init 9 = .ok (.bipush 48, 2) := by decide +kernel
theorem d_Groups_init_11 : decode c_Groups_init 11 = .ok (.invokespecial 11, 3) := by decide +kernel
theorem d_Groups_init_14 : decode c_Groups_init 14 = .ok (.putfield 14, 3) := by decide +kernel
theorem d_Groups_init_17 : decode c_Groups_init 17 = .ok (.aload_n 0, 1) := by decide +kernel
theorem d_Groups_init_18 : decode c_Groups_init 18 = .ok (.new 20, 3) := by decide +kernel
theorem d_Groups_init_21 : decode c_Groups_init 21 = .ok (.dup, 1) := by decide +kernel
theorem d_Groups_init_22 : decode c_Groups_init 22 = .ok (.bipush 12, 2) := by decide +kernel
theorem d_Groups_init_24 : decode c_Groups_init 24 = .ok (.invokespecial 22, 3) := by decide +kernel
theorem d_Groups_init_27 : decode c_Groups_init 27 = .ok (.putfield 23, 3) := by decide +kernel
theorem d_Groups_init_30 : decode c_Groups_init 30 = .ok (.aload_n 0, 1) := by decide +kernel
theorem d_Groups_init_31 : decode c_Groups_init 31 = .ok (.new 27, 3) := by decide +kernel
theorem d_Groups_init_34 : decode c_Groups_init 34 = .ok (.dup, 1) := by decide +kernel
theorem d_Groups_init_35 : decode c_Groups_init 35 = .ok (.invokespecial 29, 3) := by decide +kernel
theorem d_Groups_init_38 : decode c_Groups_init 38 = .ok (.putfield 30, 3) := by decide +kernel
theorem d_Groups_init_41 : decode c_Groups_init 41 = .ok (.aload_n 0, 1) := by decide +kernel
theorem d_Groups_init_42 : decode c_Groups_init 42 = .ok (.iconst 0, 1) := by decide +kernel
theorem d_Groups_init_43 : decode c_Groups_init 43 = .ok (.putfield 34, 3) := by decide +kernel
theorem d_Groups_init_46 : decode c_Groups_init 46 = .ok (.return_, 1) := by decide +kernel
theorem d_Groups_made_0 : decode c_Groups_made 0 = .ok (.aload_n 0, 1) := by decide +kernel
theorem d_Groups_made_1 : decode c_Groups_made 1 = .ok (.getfield 34, 3) := by decide +kernel
theorem d_Groups_made_4 : decode c_Groups_made 4 = .ok (.ireturn, 1) := by decide +kernel
theorem d_Groups_add_0 : decode c_Groups_add 0 = .ok (.aload_n 0, 1) := by decide +kernel
theorem d_Groups_add_1 : decode c_Groups_add 1 = .ok (.dup, 1) := by decide +kernel
theorem d_Groups_add_2 : decode c_Groups_add 2 = .ok (.getfield 34, 3) := by decide +kernel
theorem d_Groups_add_5 : decode c_Groups_add 5 = .ok (.iconst 1, 1) := by decide +kernel
theorem d_Groups_add_6 : decode c_Groups_add 6 = .ok (.iadd, 1) := by decide +kernel
theorem d_Groups_add_7 : decode c_Groups_add 7 = .ok (.putfield 34, 3) := by decide +kernel
theorem d_Groups_add_10 : decode c_Groups_add 10 = .ok (.aload_n 0, 1) := by decide +kernel
theorem d_Groups_add_11 : decode c_Groups_add 11 = .ok (.getfield 34, 3) := by decide +kernel
theorem d_Groups_add_14 : decode c_Groups_add 14 = .ok (.iconst 1, 1) := by decide +kernel
theorem d_Groups_add_15 : decode c_Groups_add 15 = .ok (.isub, 1) := by decide +kernel
theorem d_Groups_add_16 : decode c_Groups_add 16 = .ok (.ireturn, 1) := by decide +kernel
theorem d_Groups_homeOf_0 : decode c_Groups_homeOf 0 = .ok (.aload_n 0, 1) := by decide +kernel
theorem d_Groups_homeOf_1 : decode c_Groups_homeOf 1 = .ok (.getfield 14, 3) := by decide +kernel
theorem d_Groups_homeOf_4 : decode c_Groups_homeOf 4 = .ok (.iload_n 1, 1) := by decide +kernel
theorem d_Groups_homeOf_5 : decode c_Groups_homeOf 5 = .ok (.invokevirtual 38, 3) := by decide +kernel
theorem d_Groups_homeOf_8 : decode c_Groups_homeOf 8 = .ok (.ireturn, 1) := by decide +kernel
theorem d_Groups_ringPlace_0 : decode c_Groups_ringPlace 0 = .ok (.aload_n 0, 1) := by decide +kernel
theorem d_Groups_ringPlace_1 : decode c_Groups_ringPlace 1 = .ok (.getfield 30, 3) := by decide +kernel
theorem d_Groups_ringPlace_4 : decode c_Groups_ringPlace 4 = .ok (.iload_n 1, 1) := by decide +kernel
theorem d_Groups_ringPlace_5 : decode c_Groups_ringPlace 5 = .ok (.invokevirtual 42, 3) := by decide +kernel
theorem d_Groups_ringPlace_8 : decode c_Groups_ringPlace 8 = .ok (.ireturn, 1) := by decide +kernel
theorem d_Groups_move_0 : decode c_Groups_move 0 = .ok (.aload_n 0, 1) := by decide +kernel
theorem d_Groups_move_1 : decode c_Groups_move 1 = .ok (.getfield 14, 3) := by decide +kernel
theorem d_Groups_move_4 : decode c_Groups_move 4 = .ok (.iload_n 2, 1) := by decide +kernel
theorem d_Groups_move_5 : decode c_Groups_move 5 = .ok (.invokevirtual 38, 3) := by decide +kernel
theorem d_Groups_move_8 : decode c_Groups_move 8 = .ok (.istore 4, 2) := by decide +kernel
theorem d_Groups_move_10 : decode c_Groups_move 10 = .ok (.aload_n 0, 1) := by decide +kernel
theorem d_Groups_move_11 : decode c_Groups_move 11 = .ok (.getfield 14, 3) := by decide +kernel
theorem d_Groups_move_14 : decode c_Groups_move 14 = .ok (.iload_n 2, 1) := by decide +kernel
theorem d_Groups_move_15 : decode c_Groups_move 15 = .ok (.iload_n 1, 1) := by decide +kernel
theorem d_Groups_move_16 : decode c_Groups_move 16 = .ok (.invokevirtual 45, 3) := by decide +kernel
theorem d_Groups_move_19 : decode c_Groups_move 19 = .ok (.aload_n 0, 1) := by decide +kernel
theorem d_Groups_move_20 : decode c_Groups_move 20 = .ok (.aload_n 3, 1) := by decide +kernel
theorem d_Groups_move_21 : decode c_Groups_move 21 = .ok (.invokevirtual 49, 3) := by decide +kernel
theorem d_Groups_move_24 : decode c_Groups_move 24 = .ok (.aload_n 0, 1) := by decide +kernel
theorem d_Groups_move_25 : decode c_Groups_move 25 = .ok (.getfield 30, 3) := by decide +kernel
theorem d_Groups_move_28 : decode c_Groups_move 28 = .ok (.aload_n 0, 1) := by decide +kernel
theorem d_Groups_move_29 : decode c_Groups_move 29 = .ok (.getfield 23, 3) := by decide +kernel
theorem d_Groups_move_32 : decode c_Groups_move 32 = .ok (.iload_n 1, 1) := by decide +kernel
theorem d_Groups_move_33 : decode c_Groups_move 33 = .ok (.invokevirtual 53, 3) := by decide +kernel
theorem d_Groups_move_36 : decode c_Groups_move 36 = .ok (.ifCond .eq 15, 3) := by decide +kernel
theorem d_Groups_move_39 : decode c_Groups_move 39 = .ok (.aload_n 0, 1) := by decide +kernel
theorem d_Groups_move_40 : decode c_Groups_move 40 = .ok (.getfield 14, 3) := by decide +kernel
theorem d_Groups_move_43 : decode c_Groups_move 43 = .ok (.iload_n 2, 1) := by decide +kernel
theorem d_Groups_move_44 : decode c_Groups_move 44 = .ok (.iload 4, 2) := by decide +kernel
theorem d_Groups_move_46 : decode c_Groups_move 46 = .ok (.invokevirtual 45, 3) := by decide +kernel
theorem d_Groups_move_49 : decode c_Groups_move 49 = .ok (.iconst 0, 1) := by decide +kernel
theorem d_Groups_move_50 : decode c_Groups_move 50 = .ok (.ireturn, 1) := by decide +kernel
theorem d_Groups_move_51 : decode c_Groups_move 51 = .ok (.iconst 1, 1) := by decide +kernel
theorem d_Groups_move_52 : decode c_Groups_move 52 = .ok (.ireturn, 1) := by decide +kernel
theorem d_Groups_compare_0 : decode c_Groups_compare 0 = .ok (.aload_n 0, 1) := by decide +kernel
theorem d_Groups_compare_1 : decode c_Groups_compare 1 = .ok (.getfield 23, 3) := by decide +kernel
theorem d_Groups_compare_4 : decode c_Groups_compare 4 = .ok (.invokevirtual 57, 3) := by decide +kernel
theorem d_Groups_compare_7 : decode c_Groups_compare 7 = .ok (.iconst 0, 1) := by decide +kernel
theorem d_Groups_compare_8 : decode c_Groups_compare 8 = .ok (.istore_n 2, 1) := by decide +kernel
theorem d_Groups_compare_9 : decode c_Groups_compare 9 = .ok (.iload_n 2, 1) := by decide +kernel
theorem d_Groups_compare_10 : decode c_Groups_compare 10 = .ok (.aload_n 1, 1) := by decide +kernel
theorem d_Groups_compare_11 : decode c_Groups_compare 11 = .ok (.invokevirtual 60, 3) := by decide +kernel
theorem d_Groups_compare_14 : decode c_Groups_compare 14 = .ok (.if_icmp .ge 81, 3) := by decide +kernel
theorem d_Groups_compare_17 : decode c_Groups_compare 17 = .ok (.aload_n 0, 1) := by decide +kernel
theorem d_Groups_compare_18 : decode c_Groups_compare 18 = .ok (.getfield 14, 3) := by decide +kernel
theorem d_Groups_compare_21 : decode c_Groups_compare 21 = .ok (.iload_n 2, 1) := by decide +kernel
theorem d_Groups_compare_22 : decode c_Groups_compare 22 = .ok (.invokevirtual 38, 3) := by decide +kernel
theorem d_Groups_compare_25 : decode c_Groups_compare 25 = .ok (.istore_n 3, 1) := by decide +kernel
theorem d_Groups_compare_26 : decode c_Groups_compare 26 = .ok (.iconst 0, 1) := by decide +kernel
theorem d_Groups_compare_27 : decode c_Groups_compare 27 = .ok (.istore 4, 2) := by decide +kernel
theorem d_Groups_compare_29 : decode c_Groups_compare 29 = .ok (.iload 4, 2) := by decide +kernel
theorem d_Groups_compare_31 : decode c_Groups_compare 31 = .ok (.aload_n 1, 1) := by decide +kernel
theorem d_Groups_compare_32 : decode c_Groups_compare 32 = .ok (.invokevirtual 60, 3) := by decide +kernel
theorem d_Groups_compare_35 : decode c_Groups_compare 35 = .ok (.if_icmp .ge 54, 3) := by decide +kernel
theorem d_Groups_compare_38 : decode c_Groups_compare 38 = .ok (.iload_n 3, 1) := by decide +kernel
theorem d_Groups_compare_39 : decode c_Groups_compare 39 = .ok (.iconst (-1), 1) := by decide +kernel
theorem d_Groups_compare_40 : decode c_Groups_compare 40 = .ok (.if_icmp .eq 49, 3) := by decide +kernel
theorem d_Groups_compare_43 : decode c_Groups_compare 43 = .ok (.aload_n 0, 1) := by decide +kernel
theorem d_Groups_compare_44 : decode c_Groups_compare 44 = .ok (.getfield 14, 3) := by decide +kernel
theorem d_Groups_compare_47 : decode c_Groups_compare 47 = .ok (.iload 4, 2) := by decide +kernel
theorem d_Groups_compare_49 : decode c_Groups_compare 49 = .ok (.invokevirtual 38, 3) := by decide +kernel
theorem d_Groups_compare_52 : decode c_Groups_compare 52 = .ok (.iload_n 3, 1) := by decide +kernel
theorem d_Groups_compare_53 : decode c_Groups_compare 53 = .ok (.if_icmp .eq 30, 3) := by decide +kernel
theorem d_Groups_compare_56 : decode c_Groups_compare 56 = .ok (.aload_n 1, 1) := by decide +kernel
theorem d_Groups_compare_57 : decode c_Groups_compare 57 = .ok (.iload_n 2, 1) := by decide +kernel
theorem d_Groups_compare_58 : decode c_Groups_compare 58 = .ok (.iload 4, 2) := by decide +kernel
theorem d_Groups_compare_60 : decode c_Groups_compare 60 = .ok (.invokevirtual 66, 3) := by decide +kernel
theorem d_Groups_compare_63 : decode c_Groups_compare 63 = .ok (.ifCond .eq 20, 3) := by decide +kernel
theorem d_Groups_compare_66 : decode c_Groups_compare 66 = .ok (.aload_n 0, 1) := by decide +kernel
theorem d_Groups_compare_67 : decode c_Groups_compare 67 = .ok (.getfield 23, 3) := by decide +kernel
theorem d_Groups_compare_70 : decode c_Groups_compare 70 = .ok (.iload_n 3, 1) := by decide +kernel
theorem d_Groups_compare_71 : decode c_Groups_compare 71 = .ok (.aload_n 0, 1) := by decide +kernel
theorem d_Groups_compare_72 : decode c_Groups_compare 72 = .ok (.getfield 14, 3) := by decide +kernel
theorem d_Groups_compare_75 : decode c_Groups_compare 75 = .ok (.iload 4, 2) := by decide +kernel
theorem d_Groups_compare_77 : decode c_Groups_compare 77 = .ok (.invokevirtual 38, 3) := by decide +kernel
theorem d_Groups_compare_80 : decode c_Groups_compare 80 = .ok (.invokevirtual 70, 3) := by decide +kernel
theorem d_Groups_compare_83 : decode c_Groups_compare 83 = .ok (.iinc 4 1, 3) := by decide +kernel
theorem d_Groups_compare_86 : decode c_Groups_compare 86 = .ok (.goto (-57), 3) := by decide +kernel
theorem d_Groups_compare_89 : decode c_Groups_compare 89 = .ok (.iinc 2 1, 3) := by decide +kernel
theorem d_Groups_compare_92 : decode c_Groups_compare 92 = .ok (.goto (-83), 3) := by decide +kernel
theorem d_Groups_compare_95 : decode c_Groups_compare 95 = .ok (.return_, 1) := by decide +kernel
theorem d_Version_init_0 : decode c_Version_init 0 = .ok (.aload_n 0, 1) := by decide +kernel
theorem d_Version_init_1 : decode c_Version_init 1 = .ok (.invokespecial 3, 3) := by decide +kernel
theorem d_Version_init_4 : decode c_Version_init 4 = .ok (.aload_n 0, 1) := by decide +kernel
theorem d_Version_init_5 : decode c_Version_init 5 = .ok (.new 9, 3) := by decide +kernel
theorem d_Version_init_8 : decode c_Version_init 8 = .ok (.dup, 1) := by decide +kernel
theorem d_Version_init_9 : decode c_Version_init 9 = .ok (.bipush 48, 2) := by decide +kernel
theorem d_Version_init_11 : decode c_Version_init 11 = .ok (.invokespecial 11, 3) := by decide +kernel
theorem d_Version_init_14 : decode c_Version_init 14 = .ok (.putfield 14, 3) := by decide +kernel
theorem d_Version_init_17 : decode c_Version_init 17 = .ok (.aload_n 0, 1) := by decide +kernel
theorem d_Version_init_18 : decode c_Version_init 18 = .ok (.new 20, 3) := by decide +kernel
theorem d_Version_init_21 : decode c_Version_init 21 = .ok (.dup, 1) := by decide +kernel
theorem d_Version_init_22 : decode c_Version_init 22 = .ok (.bipush 48, 2) := by decide +kernel
theorem d_Version_init_24 : decode c_Version_init 24 = .ok (.invokespecial 22, 3) := by decide +kernel
theorem d_Version_init_27 : decode c_Version_init 27 = .ok (.putfield 23, 3) := by decide +kernel
theorem d_Version_init_30 : decode c_Version_init 30 = .ok (.aload_n 0, 1) := by decide +kernel
theorem d_Version_init_31 : decode c_Version_init 31 = .ok (.new 20, 3) := by decide +kernel
theorem d_Version_init_34 : decode c_Version_init 34 = .ok (.dup, 1) := by decide +kernel
theorem d_Version_init_35 : decode c_Version_init 35 = .ok (.bipush 48, 2) := by decide +kernel
theorem d_Version_init_37 : decode c_Version_init 37 = .ok (.invokespecial 22, 3) := by decide +kernel
theorem d_Version_init_40 : decode c_Version_init 40 = .ok (.putfield 27, 3) := by decide +kernel
theorem d_Version_init_43 : decode c_Version_init 43 = .ok (.iconst 0, 1) := by decide +kernel
theorem d_Version_init_44 : decode c_Version_init 44 = .ok (.istore_n 2, 1) := by decide +kernel
theorem d_Version_init_45 : decode c_Version_init 45 = .ok (.iload_n 2, 1) := by decide +kernel
theorem d_Version_init_46 : decode c_Version_init 46 = .ok (.aload_n 1, 1) := by decide +kernel
theorem d_Version_init_47 : decode c_Version_init 47 = .ok (.invokevirtual 30, 3) := by decide +kernel
theorem d_Version_init_50 : decode c_Version_init 50 = .ok (.if_icmp .ge 65, 3) := by decide +kernel
theorem d_Version_init_53 : decode c_Version_init 53 = .ok (.aload_n 0, 1) := by decide +kernel
theorem d_Version_init_54 : decode c_Version_init 54 = .ok (.getfield 14, 3) := by decide +kernel
theorem d_Version_init_57 : decode c_Version_init 57 = .ok (.iload_n 2, 1) := by decide +kernel
theorem d_Version_init_58 : decode c_Version_init 58 = .ok (.aload_n 1, 1) := by decide +kernel
theorem d_Version_init_59 : decode c_Version_init 59 = .ok (.iload_n 2, 1) := by decide +kernel
theorem d_Version_init_60 : decode c_Version_init 60 = .ok (.invokevirtual 36, 3) := by decide +kernel
theorem d_Version_init_63 : decode c_Version_init 63 = .ok (.invokevirtual 40, 3) := by decide +kernel
theorem d_Version_init_66 : decode c_Version_init 66 = .ok (.iconst 0, 1) := by decide +kernel
theorem d_Version_init_67 : decode c_Version_init 67 = .ok (.istore_n 3, 1) := by decide +kernel
theorem d_Version_init_68 : decode c_Version_init 68 = .ok (.iload_n 3, 1) := by decide +kernel
theorem d_Version_init_69 : decode c_Version_init 69 = .ok (.aload_n 1, 1) := by decide +kernel
theorem d_Version_init_70 : decode c_Version_init 70 = .ok (.invokevirtual 30, 3) := by decide +kernel
theorem d_Version_init_73 : decode c_Version_init 73 = .ok (.if_icmp .ge 36, 3) := by decide +kernel
theorem d_Version_init_76 : decode c_Version_init 76 = .ok (.aload_n 1, 1) := by decide +kernel
theorem d_Version_init_77 : decode c_Version_init 77 = .ok (.iload_n 2, 1) := by decide +kernel
theorem d_Version_init_78 : decode c_Version_init 78 = .ok (.iload_n 3, 1) := by decide +kernel
theorem d_Version_init_79 : decode c_Version_init 79 = .ok (.invokevirtual 44, 3) := by decide +kernel
theorem d_Version_init_82 : decode c_Version_init 82 = .ok (.ifCond .eq 21, 3) := by decide +kernel
theorem d_Version_init_85 : decode c_Version_init 85 = .ok (.aload_n 0, 1) := by decide +kernel
theorem d_Version_init_86 : decode c_Version_init 86 = .ok (.getfield 23, 3) := by decide +kernel
theorem d_Version_init_89 : decode c_Version_init 89 = .ok (.iload_n 2, 1) := by decide +kernel
theorem d_Version_init_90 : decode c_Version_init 90 = .ok (.iload_n 3, 1) := by decide +kernel
theorem d_Version_init_91 : decode c_Version_init 91 = .ok (.invokevirtual 48, 3) := by decide +kernel
theorem d_Version_init_94 : decode c_Version_init 94 = .ok (.aload_n 0, 1) := by decide +kernel
theorem d_Version_init_95 : decode c_Version_init 95 = .ok (.getfield 27, 3) := by decide +kernel
theorem d_Version_init_98 : decode c_Version_init 98 = .ok (.iload_n 3, 1) := by decide +kernel
theorem d_Version_init_99 : decode c_Version_init 99 = .ok (.iload_n 2, 1) := by decide +kernel
theorem d_Version_init_100 : decode c_Version_init 100 = .ok (.invokevirtual 48, 3) := by decide +kernel
theorem d_Version_init_103 : decode c_Version_init 103 = .ok (.iinc 3 1, 3) := by decide +kernel
theorem d_Version_init_106 : decode c_Version_init 106 = .ok (.goto (-38), 3) := by decide +kernel
theorem d_Version_init_109 : decode c_Version_init 109 = .ok (.iinc 2 1, 3) := by decide +kernel
theorem d_Version_init_112 : decode c_Version_init 112 = .ok (.goto (-67), 3) := by decide +kernel
theorem d_Version_init_115 : decode c_Version_init 115 = .ok (.return_, 1) := by decide +kernel
theorem d_Version_differences_0 : decode c_Version_differences 0 = .ok (.lconst 0, 1) := by decide +kernel
theorem d_Version_differences_1 : decode c_Version_differences 1 = .ok (.lstore_n 2, 1) := by decide +kernel
theorem d_Version_differences_2 : decode c_Version_differences 2 = .ok (.iconst 0, 1) := by decide +kernel
theorem d_Version_differences_3 : decode c_Version_differences 3 = .ok (.istore 4, 2) := by decide +kernel
theorem d_Version_differences_5 : decode c_Version_differences 5 = .ok (.iload 4, 2) := by decide +kernel
theorem d_Version_differences_7 : decode c_Version_differences 7 = .ok (.bipush 48, 2) := by decide +kernel
theorem d_Version_differences_9 : decode c_Version_differences 9 = .ok (.if_icmp .ge 81, 3) := by decide +kernel
theorem d_Version_differences_12 : decode c_Version_differences 12 = .ok (.aload_n 0, 1) := by decide +kernel
theorem d_Version_differences_13 : decode c_Version_differences 13 = .ok (.getfield 14, 3) := by decide +kernel
theorem d_Version_differences_16 : decode c_Version_differences 16 = .ok (.iload 4, 2) := by decide +kernel
theorem d_Version_differences_18 : decode c_Version_differences 18 = .ok (.invokevirtual 51, 3) := by decide +kernel
theorem d_Version_differences_21 : decode c_Version_differences 21 = .ok (.aload_n 1, 1) := by decide +kernel
theorem d_Version_differences_22 : decode c_Version_differences 22 = .ok (.getfield 14, 3) := by decide +kernel
theorem d_Version_differences_25 : decode c_Version_differences 25 = .ok (.iload 4, 2) := by decide +kernel
theorem d_Version_differences_27 : decode c_Version_differences 27 = .ok (.invokevirtual 51, 3) := by decide +kernel
theorem d_Version_differences_30 : decode c_Version_differences 30 = .ok (.if_icmp .ne 47, 3) := by decide +kernel
theorem d_Version_differences_33 : decode c_Version_differences 33 = .ok (.aload_n 0, 1) := by decide +kernel
theorem d_Version_differences_34 : decode c_Version_differences 34 = .ok (.getfield 23, 3) := by decide +kernel
theorem d_Version_differences_37 : decode c_Version_differences 37 = .ok (.iload 4, 2) := by decide +kernel
theorem d_Version_differences_39 : decode c_Version_differences 39 = .ok (.invokevirtual 54, 3) := by decide +kernel
theorem d_Version_differences_42 : decode c_Version_differences 42 = .ok (.aload_n 1, 1) := by decide +kernel
theorem d_Version_differences_43 : decode c_Version_differences 43 = .ok (.getfield 23, 3) := by decide +kernel
theorem d_Version_differences_46 : decode c_Version_differences 46 = .ok (.iload 4, 2) := by decide +kernel
theorem d_Version_differences_48 : decode c_Version_differences 48 = .ok (.invokevirtual 54, 3) := by decide +kernel
theorem d_Version_differences_51 : decode c_Version_differences 51 = .ok (.lcmp, 1) := by decide +kernel
theorem d_Version_differences_52 : decode c_Version_differences 52 = .ok (.ifCond .ne 25, 3) := by decide +kernel
theorem d_Version_differences_55 : decode c_Version_differences 55 = .ok (.aload_n 0, 1) := by decide +kernel
theorem d_Version_differences_56 : decode c_Version_differences 56 = .ok (.getfield 27, 3) := by decide +kernel
theorem d_Version_differences_59 : decode c_Version_differences 59 = .ok (.iload 4, 2) := by decide +kernel
theorem d_Version_differences_61 : decode c_Version_differences 61 = .ok (.invokevirtual 54, 3) := by decide +kernel
theorem d_Version_differences_64 : decode c_Version_differences 64 = .ok (.aload_n 1, 1) := by decide +kernel
theorem d_Version_differences_65 : decode c_Version_differences 65 = .ok (.getfield 27, 3) := by decide +kernel
theorem d_Version_differences_68 : decode c_Version_differences 68 = .ok (.iload 4, 2) := by decide +kernel
theorem d_Version_differences_70 : decode c_Version_differences 70 = .ok (.invokevirtual 54, 3) := by decide +kernel
theorem d_Version_differences_73 : decode c_Version_differences 73 = .ok (.lcmp, 1) := by decide +kernel
theorem d_Version_differences_74 : decode c_Version_differences 74 = .ok (.ifCond .eq 10, 3) := by decide +kernel
theorem d_Version_differences_77 : decode c_Version_differences 77 = .ok (.lload_n 2, 1) := by decide +kernel
theorem d_Version_differences_78 : decode c_Version_differences 78 = .ok (.lconst 1, 1) := by decide +kernel
theorem d_Version_differences_79 : decode c_Version_differences 79 = .ok (.iload 4, 2) := by decide +kernel
theorem d_Version_differences_81 : decode c_Version_differences 81 = .ok (.lshl, 1) := by decide +kernel
theorem d_Version_differences_82 : decode c_Version_differences 82 = .ok (.lor, 1) := by decide +kernel
theorem d_Version_differences_83 : decode c_Version_differences 83 = .ok (.lstore_n 2, 1) := by decide +kernel
theorem d_Version_differences_84 : decode c_Version_differences 84 = .ok (.iinc 4 1, 3) := by decide +kernel
theorem d_Version_differences_87 : decode c_Version_differences 87 = .ok (.goto (-82), 3) := by decide +kernel
theorem d_Version_differences_90 : decode c_Version_differences 90 = .ok (.lload_n 2, 1) := by decide +kernel
theorem d_Version_differences_91 : decode c_Version_differences 91 = .ok (.lreturn, 1) := by decide +kernel
theorem d_RO_init_0 : decode c_RO_init 0 = .ok (.aload_n 0, 1) := by decide +kernel
theorem d_RO_init_1 : decode c_RO_init 1 = .ok (.invokespecial 1, 3) := by decide +kernel
theorem d_RO_init_4 : decode c_RO_init 4 = .ok (.aload_n 0, 1) := by decide +kernel
theorem d_RO_init_5 : decode c_RO_init 5 = .ok (.new 7, 3) := by decide +kernel
theorem d_RO_init_8 : decode c_RO_init 8 = .ok (.dup, 1) := by decide +kernel
theorem d_RO_init_9 : decode c_RO_init 9 = .ok (.invokespecial 9, 3) := by decide +kernel
theorem d_RO_init_12 : decode c_RO_init 12 = .ok (.putfield 10, 3) := by decide +kernel
theorem d_RO_init_15 : decode c_RO_init 15 = .ok (.aload_n 0, 1) := by decide +kernel
theorem d_RO_init_16 : decode c_RO_init 16 = .ok (.new 16, 3) := by decide +kernel
theorem d_RO_init_19 : decode c_RO_init 19 = .ok (.dup, 1) := by decide +kernel
theorem d_RO_init_20 : decode c_RO_init 20 = .ok (.invokespecial 18, 3) := by decide +kernel
theorem d_RO_init_23 : decode c_RO_init 23 = .ok (.putfield 19, 3) := by decide +kernel
theorem d_RO_init_26 : decode c_RO_init 26 = .ok (.aload_n 0, 1) := by decide +kernel
theorem d_RO_init_27 : decode c_RO_init 27 = .ok (.new 23, 3) := by decide +kernel
theorem d_RO_init_30 : decode c_RO_init 30 = .ok (.dup, 1) := by decide +kernel
theorem d_RO_init_31 : decode c_RO_init 31 = .ok (.invokespecial 25, 3) := by decide +kernel
theorem d_RO_init_34 : decode c_RO_init 34 = .ok (.putfield 26, 3) := by decide +kernel
theorem d_RO_init_37 : decode c_RO_init 37 = .ok (.aload_n 0, 1) := by decide +kernel
theorem d_RO_init_38 : decode c_RO_init 38 = .ok (.new 30, 3) := by decide +kernel
theorem d_RO_init_41 : decode c_RO_init 41 = .ok (.dup, 1) := by decide +kernel
theorem d_RO_init_42 : decode c_RO_init 42 = .ok (.invokespecial 32, 3) := by decide +kernel
theorem d_RO_init_45 : decode c_RO_init 45 = .ok (.putfield 33, 3) := by decide +kernel
theorem d_RO_init_48 : decode c_RO_init 48 = .ok (.aload_n 0, 1) := by decide +kernel
theorem d_RO_init_49 : decode c_RO_init 49 = .ok (.bipush 8, 2) := by decide +kernel
theorem d_RO_init_51 : decode c_RO_init 51 = .ok (.anewarray 37, 3) := by decide +kernel
theorem d_RO_init_54 : decode c_RO_init 54 = .ok (.putfield 39, 3) := by decide +kernel
theorem d_RO_init_57 : decode c_RO_init 57 = .ok (.aload_n 0, 1) := by decide +kernel
theorem d_RO_init_58 : decode c_RO_init 58 = .ok (.iconst 0, 1) := by decide +kernel
theorem d_RO_init_59 : decode c_RO_init 59 = .ok (.putfield 43, 3) := by decide +kernel
theorem d_RO_init_62 : decode c_RO_init 62 = .ok (.return_, 1) := by decide +kernel
theorem d_RO_context_0 : decode c_RO_context 0 = .ok (.aload_n 0, 1) := by decide +kernel
theorem d_RO_context_1 : decode c_RO_context 1 = .ok (.getfield 19, 3) := by decide +kernel
theorem d_RO_context_4 : decode c_RO_context 4 = .ok (.invokevirtual 47, 3) := by decide +kernel
theorem d_RO_context_7 : decode c_RO_context 7 = .ok (.bipush 48, 2) := by decide +kernel
theorem d_RO_context_9 : decode c_RO_context 9 = .ok (.if_icmp .lt 13, 3) := by decide +kernel
theorem d_RO_context_12 : decode c_RO_context 12 = .ok (.new 51, 3) := by decide +kernel
theorem d_RO_context_15 : decode c_RO_context 15 = .ok (.dup, 1) := by decide +kernel
theorem d_RO_context_16 : decode c_RO_context 16 = .ok (.ldc 53, 2) := by decide +kernel
theorem d_RO_context_18 : decode c_RO_context 18 = .ok (.invokespecial 55, 3) := by decide +kernel
theorem d_RO_context_21 : decode c_RO_context 21 = .ok (.athrow, 1) := by decide +kernel
theorem d_RO_context_22 : decode c_RO_context 22 = .ok (.aload_n 0, 1) := by decide +kernel
theorem d_RO_context_23 : decode c_RO_context 23 = .ok (.getfield 19, 3) := by decide +kernel
theorem d_RO_context_26 : decode c_RO_context 26 = .ok (.invokevirtual 58, 3) := by decide +kernel
theorem d_RO_context_29 : decode c_RO_context 29 = .ok (.ireturn, 1) := by decide +kernel
theorem d_RO_relate_0 : decode c_RO_relate 0 = .ok (.aload_n 0, 1) := by decide +kernel
theorem d_RO_relate_1 : decode c_RO_relate 1 = .ok (.iload_n 1, 1) := by decide +kernel
theorem d_RO_relate_2 : decode c_RO_relate 2 = .ok (.invokevirtual 61, 3) := by decide +kernel
theorem d_RO_relate_5 : decode c_RO_relate 5 = .ok (.aload_n 0, 1) := by decide +kernel
theorem d_RO_relate_6 : decode c_RO_relate 6 = .ok (.iload_n 2, 1) := by decide +kernel
theorem d_RO_relate_7 : decode c_RO_relate 7 = .ok (.invokevirtual 61, 3) := by decide +kernel
theorem d_RO_relate_10 : decode c_RO_relate 10 = .ok (.iload_n 3, 1) := by decide +kernel
theorem d_RO_relate_11 : decode c_RO_relate 11 = .ok (.ifCond .lt 8, 3) := by decide +kernel
theorem d_RO_relate_14 : decode c_RO_relate 14 = .ok (.iload_n 3, 1) := by decide +kernel
theorem d_RO_relate_15 : decode c_RO_relate 15 = .ok (.iconst 4, 1) := by decide +kernel
theorem d_RO_relate_16 : decode c_RO_relate 16 = .ok (.if_icmp .le 13, 3) := by decide +kernel
theorem d_RO_relate_19 : decode c_RO_relate 19 = .ok (.new 65, 3) := by decide +kernel
theorem d_RO_relate_22 : decode c_RO_relate 22 = .ok (.dup, 1) := by decide +kernel
theorem d_RO_relate_23 : decode c_RO_relate 23 = .ok (.ldc 67, 2) := by decide +kernel
theorem d_RO_relate_25 : decode c_RO_relate 25 = .ok (.invokespecial 69, 3) := by decide +kernel
theorem d_RO_relate_28 : decode c_RO_relate 28 = .ok (.athrow, 1) := by decide +kernel
theorem d_RO_relate_29 : decode c_RO_relate 29 = .ok (.aload_n 0, 1) := by decide +kernel
theorem d_RO_relate_30 : decode c_RO_relate 30 = .ok (.getfield 10, 3) := by decide +kernel
theorem d_RO_relate_33 : decode c_RO_relate 33 = .ok (.invokevirtual 70, 3) := by decide +kernel
theorem d_RO_relate_36 : decode c_RO_relate 36 = .ok (.sipush 200, 3) := by decide +kernel
theorem d_RO_relate_39 : decode c_RO_relate 39 = .ok (.if_icmp .lt 13, 3) := by decide +kernel
theorem d_RO_relate_42 : decode c_RO_relate 42 = .ok (.new 51, 3) := by decide +kernel
theorem d_RO_relate_45 : decode c_RO_relate 45 = .ok (.dup, 1) := by decide +kernel
theorem d_RO_relate_46 : decode c_RO_relate 46 = .ok (.ldc 73, 2) := by decide +kernel
theorem d_RO_relate_48 : decode c_RO_relate 48 = .ok (.invokespecial 55, 3) := by decide +kernel
theorem d_RO_relate_51 : decode c_RO_relate 51 = .ok (.athrow, 1) := by decide +kernel
theorem d_RO_relate_52 : decode c_RO_relate 52 = .ok (.aload_n 0, 1) := by decide +kernel
theorem d_RO_relate_53 : decode c_RO_relate 53 = .ok (.aload_n 0, 1) := by decide +kernel
theorem d_RO_relate_54 : decode c_RO_relate 54 = .ok (.getfield 19, 3) := by decide +kernel
theorem d_RO_relate_57 : decode c_RO_relate 57 = .ok (.iload_n 1, 1) := by decide +kernel
theorem d_RO_relate_58 : decode c_RO_relate 58 = .ok (.invokevirtual 75, 3) := by decide +kernel
theorem d_RO_relate_61 : decode c_RO_relate 61 = .ok (.aload_n 0, 1) := by decide +kernel
theorem d_RO_relate_62 : decode c_RO_relate 62 = .ok (.getfield 19, 3) := by decide +kernel
theorem d_RO_relate_65 : decode c_RO_relate 65 = .ok (.iload_n 2, 1) := by decide +kernel
theorem d_RO_relate_66 : decode c_RO_relate 66 = .ok (.invokevirtual 75, 3) := by decide +kernel
theorem d_RO_relate_69 : decode c_RO_relate 69 = .ok (.iload_n 3, 1) := by decide +kernel
theorem d_RO_relate_70 : decode c_RO_relate 70 = .ok (.invokevirtual 79, 3) := by decide +kernel
theorem d_RO_relate_73 : decode c_RO_relate 73 = .ok (.ifCond .eq 5, 3) := by decide +kernel
theorem d_RO_relate_76 : decode c_RO_relate 76 = .ok (.iconst (-1), 1) := by decide +kernel
theorem d_RO_relate_77 : decode c_RO_relate 77 = .ok (.ireturn, 1) := by decide +kernel
theorem d_RO_relate_78 : decode c_RO_relate 78 = .ok (.aload_n 0, 1) := by decide +kernel
theorem d_RO_relate_79 : decode c_RO_relate 79 = .ok (.getfield 10, 3) := by decide +kernel
theorem d_RO_relate_82 : decode c_RO_relate 82 = .ok (.iload_n 1, 1) := by decide +kernel
theorem d_RO_relate_83 : decode c_RO_relate 83 = .ok (.iload_n 2, 1) := by decide +kernel
theorem d_RO_relate_84 : decode c_RO_relate 84 = .ok (.iload_n 3, 1) := by decide +kernel
theorem d_RO_relate_85 : decode c_RO_relate 85 = .ok (.invokevirtual 83, 3) := by decide +kernel
theorem d_RO_relate_88 : decode c_RO_relate 88 = .ok (.istore 4, 2) := by decide +kernel
theorem d_RO_relate_90 : decode c_RO_relate 90 = .ok (.iload_n 3, 1) := by decide +kernel
theorem d_RO_relate_91 : decode c_RO_relate 91 = .ok (.iconst 4, 1) := by decide +kernel
theorem d_RO_relate_92 : decode c_RO_relate 92 = .ok (.if_icmp .eq 14, 3) := by decide +kernel
theorem d_RO_relate_95 : decode c_RO_relate 95 = .ok (.aload_n 0, 1) := by decide +kernel
theorem d_RO_relate_96 : decode c_RO_relate 96 = .ok (.getfield 19, 3) := by decide +kernel
theorem d_RO_relate_99 : decode c_RO_relate 99 = .ok (.aload_n 0, 1) := by decide +kernel
theorem d_RO_relate_100 : decode c_RO_relate 100 = .ok (.getfield 10, 3) := by decide +kernel
theorem d_RO_relate_103 : decode c_RO_relate 103 = .ok (.invokevirtual 87, 3) := by decide +kernel
theorem d_RO_relate_106 : decode c_RO_relate 106 = .ok (.iload 4, 2) := by decide +kernel
theorem d_RO_relate_108 : decode c_RO_relate 108 = .ok (.ireturn, 1) := by decide +kernel
theorem d_RO_ring_0 : decode c_RO_ring 0 = .ok (.iload_n 1, 1) := by decide +kernel
theorem d_RO_ring_1 : decode c_RO_ring 1 = .ok (.invokestatic 91, 3) := by decide +kernel
theorem d_RO_ring_4 : decode c_RO_ring 4 = .ok (.aload_n 0, 1) := by decide +kernel
theorem d_RO_ring_5 : decode c_RO_ring 5 = .ok (.getfield 26, 3) := by decide +kernel
theorem d_RO_ring_8 : decode c_RO_ring 8 = .ok (.iload_n 1, 1) := by decide +kernel
theorem d_RO_ring_9 : decode c_RO_ring 9 = .ok (.invokevirtual 94, 3) := by decide +kernel
theorem d_RO_ring_12 : decode c_RO_ring 12 = .ok (.ireturn, 1) := by decide +kernel
theorem d_RO_undo_0 : decode c_RO_undo 0 = .ok (.iload_n 1, 1) := by decide +kernel
theorem d_RO_undo_1 : decode c_RO_undo 1 = .ok (.ifCond .lt 14, 3) := by decide +kernel
theorem d_RO_undo_4 : decode c_RO_undo 4 = .ok (.iload_n 1, 1) := by decide +kernel
theorem d_RO_undo_5 : decode c_RO_undo 5 = .ok (.aload_n 0, 1) := by decide +kernel
theorem d_RO_undo_6 : decode c_RO_undo 6 = .ok (.getfield 10, 3) := by decide +kernel
theorem d_RO_undo_9 : decode c_RO_undo 9 = .ok (.invokevirtual 70, 3) := by decide +kernel
theorem d_RO_undo_12 : decode c_RO_undo 12 = .ok (.if_icmp .lt 13, 3) := by decide +kernel
theorem d_RO_undo_15 : decode c_RO_undo 15 = .ok (.new 65, 3) := by decide +kernel
theorem d_RO_undo_18 : decode c_RO_undo 18 = .ok (.dup, 1) := by decide +kernel
theorem d_RO_undo_19 : decode c_RO_undo 19 = .ok (.ldc 97, 2) := by decide +kernel
theorem d_RO_undo_21 : decode c_RO_undo 21 = .ok (.invokespecial 69, 3) := by decide +kernel
theorem d_RO_undo_24 : decode c_RO_undo 24 = .ok (.athrow, 1) := by decide +kernel
theorem d_RO_undo_25 : decode c_RO_undo 25 = .ok (.aload_n 0, 1) := by decide +kernel
theorem d_RO_undo_26 : decode c_RO_undo 26 = .ok (.getfield 10, 3) := by decide +kernel
theorem d_RO_undo_29 : decode c_RO_undo 29 = .ok (.iload_n 1, 1) := by decide +kernel
theorem d_RO_undo_30 : decode c_RO_undo 30 = .ok (.invokevirtual 99, 3) := by decide +kernel
theorem d_RO_undo_33 : decode c_RO_undo 33 = .ok (.ifCond .ne 5, 3) := by decide +kernel
theorem d_RO_undo_36 : decode c_RO_undo 36 = .ok (.iconst 0, 1) := by decide +kernel
theorem d_RO_undo_37 : decode c_RO_undo 37 = .ok (.ireturn, 1) := by decide +kernel
theorem d_RO_undo_38 : decode c_RO_undo 38 = .ok (.aload_n 0, 1) := by decide +kernel
theorem d_RO_undo_39 : decode c_RO_undo 39 = .ok (.getfield 19, 3) := by decide +kernel
theorem d_RO_undo_42 : decode c_RO_undo 42 = .ok (.aload_n 0, 1) := by decide +kernel
theorem d_RO_undo_43 : decode c_RO_undo 43 = .ok (.getfield 10, 3) := by decide +kernel
theorem d_RO_undo_46 : decode c_RO_undo 46 = .ok (.invokevirtual 87, 3) := by decide +kernel
theorem d_RO_undo_49 : decode c_RO_undo 49 = .ok (.iconst 1, 1) := by decide +kernel
theorem d_RO_undo_50 : decode c_RO_undo 50 = .ok (.ireturn, 1) := by decide +kernel
theorem d_RO_order_0 : decode c_RO_order 0 = .ok (.aload_n 0, 1) := by decide +kernel
theorem d_RO_order_1 : decode c_RO_order 1 = .ok (.iload_n 1, 1) := by decide +kernel
theorem d_RO_order_2 : decode c_RO_order 2 = .ok (.invokevirtual 61, 3) := by decide +kernel
theorem d_RO_order_5 : decode c_RO_order 5 = .ok (.aload_n 0, 1) := by decide +kernel
theorem d_RO_order_6 : decode c_RO_order 6 = .ok (.iload_n 2, 1) := by decide +kernel
theorem d_RO_order_7 : decode c_RO_order 7 = .ok (.invokevirtual 61, 3) := by decide +kernel
theorem d_RO_order_10 : decode c_RO_order 10 = .ok (.aload_n 0, 1) := by decide +kernel
theorem d_RO_order_11 : decode c_RO_order 11 = .ok (.getfield 19, 3) := by decide +kernel
theorem d_RO_order_14 : decode c_RO_order 14 = .ok (.iload_n 1, 1) := by decide +kernel
theorem d_RO_order_15 : decode c_RO_order 15 = .ok (.iload_n 2, 1) := by decide +kernel
theorem d_RO_order_16 : decode c_RO_order 16 = .ok (.invokevirtual 103, 3) := by decide +kernel
theorem d_RO_order_19 : decode c_RO_order 19 = .ok (.ifCond .eq 5, 3) := by decide +kernel
theorem d_RO_order_22 : decode c_RO_order 22 = .ok (.iconst 1, 1) := by decide +kernel
theorem d_RO_order_23 : decode c_RO_order 23 = .ok (.ireturn, 1) := by decide +kernel
theorem d_RO_order_24 : decode c_RO_order 24 = .ok (.aload_n 0, 1) := by decide +kernel
theorem d_RO_order_25 : decode c_RO_order 25 = .ok (.getfield 19, 3) := by decide +kernel
theorem d_RO_order_28 : decode c_RO_order 28 = .ok (.iload_n 2, 1) := by decide +kernel
theorem d_RO_order_29 : decode c_RO_order 29 = .ok (.iload_n 1, 1) := by decide +kernel
theorem d_RO_order_30 : decode c_RO_order 30 = .ok (.invokevirtual 103, 3) := by decide +kernel
theorem d_RO_order_33 : decode c_RO_order 33 = .ok (.ifCond .eq 7, 3) := by decide +kernel
theorem d_RO_order_36 : decode c_RO_order 36 = .ok (.iconst (-1), 1) := by decide +kernel
theorem d_RO_order_37 : decode c_RO_order 37 = .ok (.goto 4, 3) := by decide +kernel
theorem d_RO_order_40 : decode c_RO_order 40 = .ok (.iconst 0, 1) := by decide +kernel
theorem d_RO_order_41 : decode c_RO_order 41 = .ok (.ireturn, 1) := by decide +kernel
theorem d_RO_links_0 : decode c_RO_links 0 = .ok (.aload_n 0, 1) := by decide +kernel
theorem d_RO_links_1 : decode c_RO_links 1 = .ok (.getfield 19, 3) := by decide +kernel
theorem d_RO_links_4 : decode c_RO_links 4 = .ok (.invokevirtual 107, 3) := by decide +kernel
theorem d_RO_links_7 : decode c_RO_links 7 = .ok (.ireturn, 1) := by decide +kernel
theorem d_RO_link_0 : decode c_RO_link 0 = .ok (.iload_n 2, 1) := by decide +kernel
theorem d_RO_link_1 : decode c_RO_link 1 = .ok (.ifCond .lt 8, 3) := by decide +kernel
theorem d_RO_link_4 : decode c_RO_link 4 = .ok (.iload_n 2, 1) := by decide +kernel
theorem d_RO_link_5 : decode c_RO_link 5 = .ok (.iconst 1, 1) := by decide +kernel
theorem d_RO_link_6 : decode c_RO_link 6 = .ok (.if_icmp .le 13, 3) := by decide +kernel
theorem d_RO_link_9 : decode c_RO_link 9 = .ok (.new 65, 3) := by decide +kernel
theorem d_RO_link_12 : decode c_RO_link 12 = .ok (.dup, 1) := by decide +kernel
theorem d_RO_link_13 : decode c_RO_link 13 = .ok (.ldc 110, 2) := by decide +kernel
theorem d_RO_link_15 : decode c_RO_link 15 = .ok (.invokespecial 69, 3) := by decide +kernel
theorem d_RO_link_18 : decode c_RO_link 18 = .ok (.athrow, 1) := by decide +kernel
theorem d_RO_link_19 : decode c_RO_link 19 = .ok (.iload_n 1, 1) := by decide +kernel
theorem d_RO_link_20 : decode c_RO_link 20 = .ok (.ifCond .lt 14, 3) := by decide +kernel
theorem d_RO_link_23 : decode c_RO_link 23 = .ok (.iload_n 1, 1) := by decide +kernel
theorem d_RO_link_24 : decode c_RO_link 24 = .ok (.aload_n 0, 1) := by decide +kernel
theorem d_RO_link_25 : decode c_RO_link 25 = .ok (.getfield 19, 3) := by decide +kernel
theorem d_RO_link_28 : decode c_RO_link 28 = .ok (.invokevirtual 107, 3) := by decide +kernel
theorem d_RO_link_31 : decode c_RO_link 31 = .ok (.if_icmp .lt 13, 3) := by decide +kernel
theorem d_RO_link_34 : decode c_RO_link 34 = .ok (.new 65, 3) := by decide +kernel
theorem d_RO_link_37 : decode c_RO_link 37 = .ok (.dup, 1) := by decide +kernel
theorem d_RO_link_38 : decode c_RO_link 38 = .ok (.ldc 112, 2) := by decide +kernel
theorem d_RO_link_40 : decode c_RO_link 40 = .ok (.invokespecial 69, 3) := by decide +kernel
theorem d_RO_link_43 : decode c_RO_link 43 = .ok (.athrow, 1) := by decide +kernel
theorem d_RO_link_44 : decode c_RO_link 44 = .ok (.aload_n 0, 1) := by decide +kernel
theorem d_RO_link_45 : decode c_RO_link 45 = .ok (.getfield 19, 3) := by decide +kernel
theorem d_RO_link_48 : decode c_RO_link 48 = .ok (.iload_n 1, 1) := by decide +kernel
theorem d_RO_link_49 : decode c_RO_link 49 = .ok (.iload_n 2, 1) := by decide +kernel
theorem d_RO_link_50 : decode c_RO_link 50 = .ok (.ifCond .ne 7, 3) := by decide +kernel
theorem d_RO_link_53 : decode c_RO_link 53 = .ok (.iconst 1, 1) := by decide +kernel
theorem d_RO_link_54 : decode c_RO_link 54 = .ok (.goto 4, 3) := by decide +kernel
theorem d_RO_link_57 : decode c_RO_link 57 = .ok (.iconst 0, 1) := by decide +kernel
theorem d_RO_link_58 : decode c_RO_link 58 = .ok (.invokevirtual 114, 3) := by decide +kernel
theorem d_RO_link_61 : decode c_RO_link 61 = .ok (.ireturn, 1) := by decide +kernel
theorem d_RO_equal_0 : decode c_RO_equal 0 = .ok (.aload_n 0, 1) := by decide +kernel
theorem d_RO_equal_1 : decode c_RO_equal 1 = .ok (.iload_n 1, 1) := by decide +kernel
theorem d_RO_equal_2 : decode c_RO_equal 2 = .ok (.invokevirtual 61, 3) := by decide +kernel
theorem d_RO_equal_5 : decode c_RO_equal 5 = .ok (.aload_n 0, 1) := by decide +kernel
theorem d_RO_equal_6 : decode c_RO_equal 6 = .ok (.getfield 19, 3) := by decide +kernel
theorem d_RO_equal_9 : decode c_RO_equal 9 = .ok (.iload_n 1, 1) := by decide +kernel
theorem d_RO_equal_10 : decode c_RO_equal 10 = .ok (.invokevirtual 75, 3) := by decide +kernel
theorem d_RO_equal_13 : decode c_RO_equal 13 = .ok (.ireturn, 1) := by decide +kernel
theorem d_RO_contemporary_0 : decode c_RO_contemporary 0 = .ok (.aload_n 0, 1) := by decide +kernel
theorem d_RO_contemporary_1 : decode c_RO_contemporary 1 = .ok (.iload_n 1, 1) := by decide +kernel
theorem d_RO_contemporary_2 : decode c_RO_contemporary 2 = .ok (.invokevirtual 61, 3) := by decide +kernel
theorem d_RO_contemporary_5 : decode c_RO_contemporary 5 = .ok (.aload_n 0, 1) := by decide +kernel
theorem d_RO_contemporary_6 : decode c_RO_contemporary 6 = .ok (.iload_n 2, 1) := by decide +kernel
theorem d_RO_contemporary_7 : decode c_RO_contemporary 7 = .ok (.invokevirtual 61, 3) := by decide +kernel
theorem d_RO_contemporary_10 : decode c_RO_contemporary 10 = .ok (.aload_n 0, 1) := by decide +kernel
theorem d_RO_contemporary_11 : decode c_RO_contemporary 11 = .ok (.getfield 19, 3) := by decide +kernel
theorem d_RO_contemporary_14 : decode c_RO_contemporary 14 = .ok (.iload_n 1, 1) := by decide +kernel
theorem d_RO_contemporary_15 : decode c_RO_contemporary 15 = .ok (.iload_n 2, 1) := by decide +kernel
theorem d_RO_contemporary_16 : decode c_RO_contemporary 16 = .ok (.aload_n 0, 1) := by decide +kernel
theorem d_RO_contemporary_17 : decode c_RO_contemporary 17 = .ok (.getfield 10, 3) := by decide +kernel
theorem d_RO_contemporary_20 : decode c_RO_contemporary 20 = .ok (.invokevirtual 118, 3) := by decide +kernel
theorem d_RO_contemporary_23 : decode c_RO_contemporary 23 = .ok (.ireturn, 1) := by decide +kernel
theorem d_RO_longest_0 : decode c_RO_longest 0 = .ok (.aload_n 0, 1) := by decide +kernel
theorem d_RO_longest_1 : decode c_RO_longest 1 = .ok (.iload_n 1, 1) := by decide +kernel
theorem d_RO_longest_2 : decode c_RO_longest 2 = .ok (.invokevirtual 61, 3) := by decide +kernel
theorem d_RO_longest_5 : decode c_RO_longest 5 = .ok (.aload_n 0, 1) := by decide +kernel
theorem d_RO_longest_6 : decode c_RO_longest 6 = .ok (.getfield 19, 3) := by decide +kernel
theorem d_RO_longest_9 : decode c_RO_longest 9 = .ok (.iload_n 1, 1) := by decide +kernel
theorem d_RO_longest_10 : decode c_RO_longest 10 = .ok (.invokevirtual 122, 3) := by decide +kernel
theorem d_RO_longest_13 : decode c_RO_longest 13 = .ok (.ireturn, 1) := by decide +kernel
theorem d_RO_group_0 : decode c_RO_group 0 = .ok (.aload_n 0, 1) := by decide +kernel
theorem d_RO_group_1 : decode c_RO_group 1 = .ok (.getfield 33, 3) := by decide +kernel
theorem d_RO_group_4 : decode c_RO_group 4 = .ok (.invokevirtual 125, 3) := by decide +kernel
theorem d_RO_group_7 : decode c_RO_group 7 = .ok (.bipush 12, 2) := by decide +kernel
theorem d_RO_group_9 : decode c_RO_group 9 = .ok (.if_icmp .lt 13, 3) := by decide +kernel
theorem d_RO_group_12 : decode c_RO_group 12 = .ok (.new 51, 3) := by decide +kernel
theorem d_RO_group_15 : decode c_RO_group 15 = .ok (.dup, 1) := by decide +kernel
theorem d_RO_group_16 : decode c_RO_group 16 = .ok (.ldc 126, 2) := by decide +kernel
theorem d_RO_group_18 : decode c_RO_group 18 = .ok (.invokespecial 55, 3) := by decide +kernel
theorem d_RO_group_21 : decode c_RO_group 21 = .ok (.athrow, 1) := by decide +kernel
theorem d_RO_group_22 : decode c_RO_group 22 = .ok (.aload_n 0, 1) := by decide +kernel
theorem d_RO_group_23 : decode c_RO_group 23 = .ok (.getfield 33, 3) := by decide +kernel
theorem d_RO_group_26 : decode c_RO_group 26 = .ok (.invokevirtual 128, 3) := by decide +kernel
theorem d_RO_group_29 : decode c_RO_group 29 = .ok (.ireturn, 1) := by decide +kernel
theorem d_RO_into_0 : decode c_RO_into 0 = .ok (.iload_n 1, 1) := by decide +kernel
theorem d_RO_into_1 : decode c_RO_into 1 = .ok (.ifCond .lt 14, 3) := by decide +kernel
theorem d_RO_into_4 : decode c_RO_into 4 = .ok (.iload_n 1, 1) := by decide +kernel
theorem d_RO_into_5 : decode c_RO_into 5 = .ok (.aload_n 0, 1) := by decide +kernel
theorem d_RO_into_6 : decode c_RO_into 6 = .ok (.getfield 33, 3) := by decide +kernel
theorem d_RO_into_9 : decode c_RO_into 9 = .ok (.invokevirtual 125, 3) := by decide +kernel
theorem d_RO_into_12 : decode c_RO_into 12 = .ok (.if_icmp .lt 13, 3) := by decide +kernel
theorem d_RO_into_15 : decode c_RO_into 15 = .ok (.new 65, 3) := by decide +kernel
theorem d_RO_into_18 : decode c_RO_into 18 = .ok (.dup, 1) := by decide +kernel
theorem d_RO_into_19 : decode c_RO_into 19 = .ok (.ldc 130, 2) := by decide +kernel
theorem d_RO_into_21 : decode c_RO_into 21 = .ok (.invokespecial 69, 3) := by decide +kernel
theorem d_RO_into_24 : decode c_RO_into 24 = .ok (.athrow, 1) := by decide +kernel
theorem d_RO_into_25 : decode c_RO_into 25 = .ok (.aload_n 0, 1) := by decide +kernel
theorem d_RO_into_26 : decode c_RO_into 26 = .ok (.iload_n 2, 1) := by decide +kernel
theorem d_RO_into_27 : decode c_RO_into 27 = .ok (.invokevirtual 61, 3) := by decide +kernel
theorem d_RO_into_30 : decode c_RO_into 30 = .ok (.aload_n 0, 1) := by decide +kernel
theorem d_RO_into_31 : decode c_RO_into 31 = .ok (.getfield 33, 3) := by decide +kernel
theorem d_RO_into_34 : decode c_RO_into 34 = .ok (.iload_n 1, 1) := by decide +kernel
theorem d_RO_into_35 : decode c_RO_into 35 = .ok (.iload_n 2, 1) := by decide +kernel
theorem d_RO_into_36 : decode c_RO_into 36 = .ok (.aload_n 0, 1) := by decide +kernel
theorem d_RO_into_37 : decode c_RO_into 37 = .ok (.getfield 19, 3) := by decide +kernel
theorem d_RO_into_40 : decode c_RO_into 40 = .ok (.invokevirtual 132, 3) := by decide +kernel
theorem d_RO_into_43 : decode c_RO_into 43 = .ok (.ireturn, 1) := by decide +kernel
theorem d_RO_groupRing_0 : decode c_RO_groupRing 0 = .ok (.iload_n 1, 1) := by decide +kernel
theorem d_RO_groupRing_1 : decode c_RO_groupRing 1 = .ok (.invokestatic 91, 3) := by decide +kernel
theorem d_RO_groupRing_4 : decode c_RO_groupRing 4 = .ok (.aload_n 0, 1) := by decide +kernel
theorem d_RO_groupRing_5 : decode c_RO_groupRing 5 = .ok (.getfield 33, 3) := by decide +kernel
theorem d_RO_groupRing_8 : decode c_RO_groupRing 8 = .ok (.iload_n 1, 1) := by decide +kernel
theorem d_RO_groupRing_9 : decode c_RO_groupRing 9 = .ok (.invokevirtual 136, 3) := by decide +kernel
theorem d_RO_groupRing_12 : decode c_RO_groupRing 12 = .ok (.ireturn, 1) := by decide +kernel
theorem d_RO_groupOf_0 : decode c_RO_groupOf 0 = .ok (.aload_n 0, 1) := by decide +kernel
theorem d_RO_groupOf_1 : decode c_RO_groupOf 1 = .ok (.iload_n 1, 1) := by decide +kernel
theorem d_RO_groupOf_2 : decode c_RO_groupOf 2 = .ok (.invokevirtual 61, 3) := by decide +kernel
theorem d_RO_groupOf_5 : decode c_RO_groupOf 5 = .ok (.aload_n 0, 1) := by decide +kernel
theorem d_RO_groupOf_6 : decode c_RO_groupOf 6 = .ok (.getfield 33, 3) := by decide +kernel
theorem d_RO_groupOf_9 : decode c_RO_groupOf 9 = .ok (.iload_n 1, 1) := by decide +kernel
theorem d_RO_groupOf_10 : decode c_RO_groupOf 10 = .ok (.invokevirtual 139, 3) := by decide +kernel
theorem d_RO_groupOf_13 : decode c_RO_groupOf 13 = .ok (.ireturn, 1) := by decide +kernel
theorem d_RO_version_0 : decode c_RO_version 0 = .ok (.aload_n 0, 1) := by decide +kernel
theorem d_RO_version_1 : decode c_RO_version 1 = .ok (.getfield 43, 3) := by decide +kernel
theorem d_RO_version_4 : decode c_RO_version 4 = .ok (.ifCond .lt 15, 3) := by decide +kernel
theorem d_RO_version_7 : decode c_RO_version 7 = .ok (.aload_n 0, 1) := by decide +kernel
theorem d_RO_version_8 : decode c_RO_version 8 = .ok (.getfield 43, 3) := by decide +kernel
theorem d_RO_version_11 : decode c_RO_version 11 = .ok (.aload_n 0, 1) := by decide +kernel
theorem d_RO_version_12 : decode c_RO_version 12 = .ok (.getfield 39, 3) := by decide +kernel
theorem d_RO_version_15 : decode c_RO_version 15 = .ok (.arraylength, 1) := by decide +kernel
theorem d_RO_version_16 : decode c_RO_version 16 = .ok (.if_icmp .lt 13, 3) := by decide +kernel
theorem d_RO_version_19 : decode c_RO_version 19 = .ok (.new 51, 3) := by decide +kernel
theorem d_RO_version_22 : decode c_RO_version 22 = .ok (.dup, 1) := by decide +kernel
theorem d_RO_version_23 : decode c_RO_version 23 = .ok (.ldc 142, 2) := by decide +kernel
theorem d_RO_version_25 : decode c_RO_version 25 = .ok (.invokespecial 55, 3) := by decide +kernel
theorem d_RO_version_28 : decode c_RO_version 28 = .ok (.athrow, 1) := by decide +kernel
theorem d_RO_version_29 : decode c_RO_version 29 = .ok (.aload_n 0, 1) := by decide +kernel
theorem d_RO_version_30 : decode c_RO_version 30 = .ok (.getfield 39, 3) := by decide +kernel
theorem d_RO_version_33 : decode c_RO_version 33 = .ok (.aload_n 0, 1) := by decide +kernel
theorem d_RO_version_34 : decode c_RO_version 34 = .ok (.getfield 43, 3) := by decide +kernel
theorem d_RO_version_37 : decode c_RO_version 37 = .ok (.new 37, 3) := by decide +kernel
theorem d_RO_version_40 : decode c_RO_version 40 = .ok (.dup, 1) := by decide +kernel
theorem d_RO_version_41 : decode c_RO_version 41 = .ok (.aload_n 0, 1) := by decide +kernel
theorem d_RO_version_42 : decode c_RO_version 42 = .ok (.getfield 19, 3) := by decide +kernel
theorem d_RO_version_45 : decode c_RO_version 45 = .ok (.invokespecial 144, 3) := by decide +kernel
theorem d_RO_version_48 : decode c_RO_version 48 = .ok (.aastore, 1) := by decide +kernel
theorem d_RO_version_49 : decode c_RO_version 49 = .ok (.aload_n 0, 1) := by decide +kernel
theorem d_RO_version_50 : decode c_RO_version 50 = .ok (.dup, 1) := by decide +kernel
theorem d_RO_version_51 : decode c_RO_version 51 = .ok (.getfield 43, 3) := by decide +kernel
theorem d_RO_version_54 : decode c_RO_version 54 = .ok (.iconst 1, 1) := by decide +kernel
theorem d_RO_version_55 : decode c_RO_version 55 = .ok (.iadd, 1) := by decide +kernel
theorem d_RO_version_56 : decode c_RO_version 56 = .ok (.putfield 43, 3) := by decide +kernel
theorem d_RO_version_59 : decode c_RO_version 59 = .ok (.aload_n 0, 1) := by decide +kernel
theorem d_RO_version_60 : decode c_RO_version 60 = .ok (.getfield 43, 3) := by decide +kernel
theorem d_RO_version_63 : decode c_RO_version 63 = .ok (.iconst 1, 1) := by decide +kernel
theorem d_RO_version_64 : decode c_RO_version 64 = .ok (.isub, 1) := by decide +kernel
theorem d_RO_version_65 : decode c_RO_version 65 = .ok (.ireturn, 1) := by decide +kernel
theorem d_RO_differs_0 : decode c_RO_differs 0 = .ok (.aload_n 0, 1) := by decide +kernel
theorem d_RO_differs_1 : decode c_RO_differs 1 = .ok (.iload_n 1, 1) := by decide +kernel
theorem d_RO_differs_2 : decode c_RO_differs 2 = .ok (.invokevirtual 147, 3) := by decide +kernel
theorem d_RO_differs_5 : decode c_RO_differs 5 = .ok (.astore 4, 2) := by decide +kernel
theorem d_RO_differs_7 : decode c_RO_differs 7 = .ok (.aload_n 0, 1) := by decide +kernel
theorem d_RO_differs_8 : decode c_RO_differs 8 = .ok (.iload_n 2, 1) := by decide +kernel
theorem d_RO_differs_9 : decode c_RO_differs 9 = .ok (.invokevirtual 147, 3) := by decide +kernel
theorem d_RO_differs_12 : decode c_RO_differs 12 = .ok (.astore 5, 2) := by decide +kernel
theorem d_RO_differs_14 : decode c_RO_differs 14 = .ok (.aload 4, 2) := by decide +kernel
theorem d_RO_differs_16 : decode c_RO_differs 16 = .ok (.ifnull 8, 3) := by decide +kernel
theorem d_RO_differs_19 : decode c_RO_differs 19 = .ok (.aload 5, 2) := by decide +kernel
theorem d_RO_differs_21 : decode c_RO_differs 21 = .ok (.ifnonnull 13, 3) := by decide +kernel
theorem d_RO_differs_24 : decode c_RO_differs 24 = .ok (.new 65, 3) := by decide +kernel
theorem d_RO_differs_27 : decode c_RO_differs 27 = .ok (.dup, 1) := by decide +kernel
theorem d_RO_differs_28 : decode c_RO_differs 28 = .ok (.ldc 151, 2) := by decide +kernel
theorem d_RO_differs_30 : decode c_RO_differs 30 = .ok (.invokespecial 69, 3) := by decide +kernel
theorem d_RO_differs_33 : decode c_RO_differs 33 = .ok (.athrow, 1) := by decide +kernel
theorem d_RO_differs_34 : decode c_RO_differs 34 = .ok (.iload_n 3, 1) := by decide +kernel
theorem d_RO_differs_35 : decode c_RO_differs 35 = .ok (.invokestatic 91, 3) := by decide +kernel
theorem d_RO_differs_38 : decode c_RO_differs 38 = .ok (.aload 4, 2) := by decide +kernel
theorem d_RO_differs_40 : decode c_RO_differs 40 = .ok (.aload 5, 2) := by decide +kernel
theorem d_RO_differs_42 : decode c_RO_differs 42 = .ok (.invokevirtual 153, 3) := by decide +kernel
theorem d_RO_differs_45 : decode c_RO_differs 45 = .ok (.iload_n 3, 1) := by decide +kernel
theorem d_RO_differs_46 : decode c_RO_differs 46 = .ok (.invokestatic 157, 3) := by decide +kernel
theorem d_RO_differs_49 : decode c_RO_differs 49 = .ok (.ireturn, 1) := by decide +kernel
theorem d_RO_count_0 : decode c_RO_count 0 = .ok (.iload_n 1, 1) := by decide +kernel
theorem d_RO_count_1 : decode c_RO_count 1 = .ok (.tableswitch 75 0 4 #[35, 43, 51, 59, 67], 35) := by decide +kernel
theorem d_RO_count_36 : decode c_RO_count 36 = .ok (.aload_n 0, 1) := by decide +kernel
theorem d_RO_count_37 : decode c_RO_count 37 = .ok (.getfield 19, 3) := by decide +kernel
theorem d_RO_count_40 : decode c_RO_count 40 = .ok (.invokevirtual 47, 3) := by decide +kernel
theorem d_RO_count_43 : decode c_RO_count 43 = .ok (.ireturn, 1) := by decide +kernel
theorem d_RO_count_44 : decode c_RO_count 44 = .ok (.aload_n 0, 1) := by decide +kernel
theorem d_RO_count_45 : decode c_RO_count 45 = .ok (.getfield 10, 3) := by decide +kernel
theorem d_RO_count_48 : decode c_RO_count 48 = .ok (.invokevirtual 161, 3) := by decide +kernel
theorem d_RO_count_51 : decode c_RO_count 51 = .ok (.ireturn, 1) := by decide +kernel
theorem d_RO_count_52 : decode c_RO_count 52 = .ok (.aload_n 0, 1) := by decide +kernel
theorem d_RO_count_53 : decode c_RO_count 53 = .ok (.getfield 19, 3) := by decide +kernel
theorem d_RO_count_56 : decode c_RO_count 56 = .ok (.invokevirtual 164, 3) := by decide +kernel
theorem d_RO_count_59 : decode c_RO_count 59 = .ok (.ireturn, 1) := by decide +kernel
theorem d_RO_count_60 : decode c_RO_count 60 = .ok (.aload_n 0, 1) := by decide +kernel
theorem d_RO_count_61 : decode c_RO_count 61 = .ok (.getfield 19, 3) := by decide +kernel
theorem d_RO_count_64 : decode c_RO_count 64 = .ok (.invokevirtual 167, 3) := by decide +kernel
theorem d_RO_count_67 : decode c_RO_count 67 = .ok (.ireturn, 1) := by decide +kernel
theorem d_RO_count_68 : decode c_RO_count 68 = .ok (.aload_n 0, 1) := by decide +kernel
theorem d_RO_count_69 : decode c_RO_count 69 = .ok (.getfield 33, 3) := by decide +kernel
theorem d_RO_count_72 : decode c_RO_count 72 = .ok (.invokevirtual 125, 3) := by decide +kernel
theorem d_RO_count_75 : decode c_RO_count 75 = .ok (.ireturn, 1) := by decide +kernel
theorem d_RO_count_76 : decode c_RO_count 76 = .ok (.new 65, 3) := by decide +kernel
theorem d_RO_count_79 : decode c_RO_count 79 = .ok (.dup, 1) := by decide +kernel
theorem d_RO_count_80 : decode c_RO_count 80 = .ok (.ldc 170, 2) := by decide +kernel
theorem d_RO_count_82 : decode c_RO_count 82 = .ok (.invokespecial 69, 3) := by decide +kernel
theorem d_RO_count_85 : decode c_RO_count 85 = .ok (.athrow, 1) := by decide +kernel
theorem d_RO_checkContext_0 : decode c_RO_checkContext 0 = .ok (.iload_n 1, 1) := by decide +kernel
theorem d_RO_checkContext_1 : decode c_RO_checkContext 1 = .ok (.ifCond .lt 14, 3) := by decide +kernel
theorem d_RO_checkContext_4 : decode c_RO_checkContext 4 = .ok (.iload_n 1, 1) := by decide +kernel
theorem d_RO_checkContext_5 : decode c_RO_checkContext 5 = .ok (.aload_n 0, 1) := by decide +kernel
theorem d_RO_checkContext_6 : decode c_RO_checkContext 6 = .ok (.getfield 19, 3) := by decide +kernel
theorem d_RO_checkContext_9 : decode c_RO_checkContext 9 = .ok (.invokevirtual 47, 3) := by decide +kernel
theorem d_RO_checkContext_12 : decode c_RO_checkContext 12 = .ok (.if_icmp .lt 13, 3) := by decide +kernel
theorem d_RO_checkContext_15 : decode c_RO_checkContext 15 = .ok (.new 65, 3) := by decide +kernel
theorem d_RO_checkContext_18 : decode c_RO_checkContext 18 = .ok (.dup, 1) := by decide +kernel
theorem d_RO_checkContext_19 : decode c_RO_checkContext 19 = .ok (.ldc 172, 2) := by decide +kernel
theorem d_RO_checkContext_21 : decode c_RO_checkContext 21 = .ok (.invokespecial 69, 3) := by decide +kernel
theorem d_RO_checkContext_24 : decode c_RO_checkContext 24 = .ok (.athrow, 1) := by decide +kernel
theorem d_RO_checkContext_25 : decode c_RO_checkContext 25 = .ok (.return_, 1) := by decide +kernel
theorem d_RO_checkPlace_0 : decode c_RO_checkPlace 0 = .ok (.iload_n 0, 1) := by decide +kernel
theorem d_RO_checkPlace_1 : decode c_RO_checkPlace 1 = .ok (.ifCond .ge 13, 3) := by decide +kernel
theorem d_RO_checkPlace_4 : decode c_RO_checkPlace 4 = .ok (.new 65, 3) := by decide +kernel
theorem d_RO_checkPlace_7 : decode c_RO_checkPlace 7 = .ok (.dup, 1) := by decide +kernel
theorem d_RO_checkPlace_8 : decode c_RO_checkPlace 8 = .ok (.ldc 174, 2) := by decide +kernel
theorem d_RO_checkPlace_10 : decode c_RO_checkPlace 10 = .ok (.invokespecial 69, 3) := by decide +kernel
theorem d_RO_checkPlace_13 : decode c_RO_checkPlace 13 = .ok (.athrow, 1) := by decide +kernel
theorem d_RO_checkPlace_14 : decode c_RO_checkPlace 14 = .ok (.return_, 1) := by decide +kernel
theorem d_RO_versionAt_0 : decode c_RO_versionAt 0 = .ok (.iload_n 1, 1) := by decide +kernel
theorem d_RO_versionAt_1 : decode c_RO_versionAt 1 = .ok (.ifCond .lt 21, 3) := by decide +kernel
theorem d_RO_versionAt_4 : decode c_RO_versionAt 4 = .ok (.iload_n 1, 1) := by decide +kernel
theorem d_RO_versionAt_5 : decode c_RO_versionAt 5 = .ok (.aload_n 0, 1) := by decide +kernel
theorem d_RO_versionAt_6 : decode c_RO_versionAt 6 = .ok (.getfield 39, 3) := by decide +kernel
theorem d_RO_versionAt_9 : decode c_RO_versionAt 9 = .ok (.arraylength, 1) := by decide +kernel
theorem d_RO_versionAt_10 : decode c_RO_versionAt 10 = .ok (.if_icmp .ge 12, 3) := by decide +kernel
theorem d_RO_versionAt_13 : decode c_RO_versionAt 13 = .ok (.aload_n 0, 1) := by decide +kernel
theorem d_RO_versionAt_14 : decode c_RO_versionAt 14 = .ok (.getfield 39, 3) := by decide +kernel
theorem d_RO_versionAt_17 : decode c_RO_versionAt 17 = .ok (.iload_n 1, 1) := by decide +kernel
theorem d_RO_versionAt_18 : decode c_RO_versionAt 18 = .ok (.aaload, 1) := by decide +kernel
theorem d_RO_versionAt_19 : decode c_RO_versionAt 19 = .ok (.goto 4, 3) := by decide +kernel
theorem d_RO_versionAt_22 : decode c_RO_versionAt 22 = .ok (.aconst_null, 1) := by decide +kernel
theorem d_RO_versionAt_23 : decode c_RO_versionAt 23 = .ok (.areturn, 1) := by decide +kernel
theorem d_RO_closesRing_0 : decode c_RO_closesRing 0 = .ok (.iload_n 3, 1) := by decide +kernel
theorem d_RO_closesRing_1 : decode c_RO_closesRing 1 = .ok (.iconst 4, 1) := by decide +kernel
theorem d_RO_closesRing_2 : decode c_RO_closesRing 2 = .ok (.if_icmp .ne 5, 3) := by decide +kernel
theorem d_RO_closesRing_5 : decode c_RO_closesRing 5 = .ok (.iconst 0, 1) := by decide +kernel
theorem d_RO_closesRing_6 : decode c_RO_closesRing 6 = .ok (.ireturn, 1) := by decide +kernel
theorem d_RO_closesRing_7 : decode c_RO_closesRing 7 = .ok (.iload_n 3, 1) := by decide +kernel
theorem d_RO_closesRing_8 : decode c_RO_closesRing 8 = .ok (.iconst 3, 1) := by decide +kernel
theorem d_RO_closesRing_9 : decode c_RO_closesRing 9 = .ok (.if_icmp .eq 18, 3) := by decide +kernel
theorem d_RO_closesRing_12 : decode c_RO_closesRing 12 = .ok (.aload_n 0, 1) := by decide +kernel
theorem d_RO_closesRing_13 : decode c_RO_closesRing 13 = .ok (.getfield 19, 3) := by decide +kernel
theorem d_RO_closesRing_16 : decode c_RO_closesRing 16 = .ok (.iload_n 1, 1) := by decide +kernel
theorem d_RO_closesRing_17 : decode c_RO_closesRing 17 = .ok (.iload_n 2, 1) := by decide +kernel
theorem d_RO_closesRing_18 : decode c_RO_closesRing 18 = .ok (.iload_n 1, 1) := by decide +kernel
theorem d_RO_closesRing_19 : decode c_RO_closesRing 19 = .ok (.aload_n 0, 1) := by decide +kernel
theorem d_RO_closesRing_20 : decode c_RO_closesRing 20 = .ok (.getfield 26, 3) := by decide +kernel
theorem d_RO_closesRing_23 : decode c_RO_closesRing 23 = .ok (.invokevirtual 176, 3) := by decide +kernel
theorem d_RO_closesRing_26 : decode c_RO_closesRing 26 = .ok (.ireturn, 1) := by decide +kernel
theorem d_RO_closesRing_27 : decode c_RO_closesRing 27 = .ok (.iload_n 1, 1) := by decide +kernel
theorem d_RO_closesRing_28 : decode c_RO_closesRing 28 = .ok (.iload_n 2, 1) := by decide +kernel
theorem d_RO_closesRing_29 : decode c_RO_closesRing 29 = .ok (.if_icmp .eq 41, 3) := by decide +kernel
theorem d_RO_closesRing_32 : decode c_RO_closesRing 32 = .ok (.aload_n 0, 1) := by decide +kernel
theorem d_RO_closesRing_33 : decode c_RO_closesRing 33 = .ok (.getfield 19, 3) := by decide +kernel
theorem d_RO_closesRing_36 : decode c_RO_closesRing 36 = .ok (.iload_n 2, 1) := by decide +kernel
theorem d_RO_closesRing_37 : decode c_RO_closesRing 37 = .ok (.iload_n 1, 1) := by decide +kernel
theorem d_RO_closesRing_38 : decode c_RO_closesRing 38 = .ok (.iload_n 1, 1) := by decide +kernel
theorem d_RO_closesRing_39 : decode c_RO_closesRing 39 = .ok (.aload_n 0, 1) := by decide +kernel
theorem d_RO_closesRing_40 : decode c_RO_closesRing 40 = .ok (.getfield 26, 3) := by decide +kernel
theorem d_RO_closesRing_43 : decode c_RO_closesRing 43 = .ok (.invokevirtual 176, 3) := by decide +kernel
theorem d_RO_closesRing_46 : decode c_RO_closesRing 46 = .ok (.ifCond .ne 20, 3) := by decide +kernel
theorem d_RO_closesRing_49 : decode c_RO_closesRing 49 = .ok (.aload_n 0, 1) := by decide +kernel
theorem d_RO_closesRing_50 : decode c_RO_closesRing 50 = .ok (.getfield 19, 3) := by decide +kernel
theorem d_RO_closesRing_53 : decode c_RO_closesRing 53 = .ok (.iload_n 1, 1) := by decide +kernel
theorem d_RO_closesRing_54 : decode c_RO_closesRing 54 = .ok (.iload_n 2, 1) := by decide +kernel
theorem d_RO_closesRing_55 : decode c_RO_closesRing 55 = .ok (.iload_n 2, 1) := by decide +kernel
theorem d_RO_closesRing_56 : decode c_RO_closesRing 56 = .ok (.aload_n 0, 1) := by decide +kernel
theorem d_RO_closesRing_57 : decode c_RO_closesRing 57 = .ok (.getfield 26, 3) := by decide +kernel
theorem d_RO_closesRing_60 : decode c_RO_closesRing 60 = .ok (.invokevirtual 176, 3) := by decide +kernel
theorem d_RO_closesRing_63 : decode c_RO_closesRing 63 = .ok (.ifCond .eq 7, 3) := by decide +kernel
theorem d_RO_closesRing_66 : decode c_RO_closesRing 66 = .ok (.iconst 1, 1) := by decide +kernel
theorem d_RO_closesRing_67 : decode c_RO_closesRing 67 = .ok (.goto 4, 3) := by decide +kernel
theorem d_RO_closesRing_70 : decode c_RO_closesRing 70 = .ok (.iconst 0, 1) := by decide +kernel
theorem d_RO_closesRing_71 : decode c_RO_closesRing 71 = .ok (.ireturn, 1) := by decide +kernel
theorem d_RO_nthOf_0 : decode c_RO_nthOf 0 = .ok (.iload_n 2, 1) := by decide +kernel
theorem d_RO_nthOf_1 : decode c_RO_nthOf 1 = .ok (.istore_n 3, 1) := by decide +kernel
theorem d_RO_nthOf_2 : decode c_RO_nthOf 2 = .ok (.iconst 0, 1) := by decide +kernel
theorem d_RO_nthOf_3 : decode c_RO_nthOf 3 = .ok (.istore 4, 2) := by decide +kernel
theorem d_RO_nthOf_5 : decode c_RO_nthOf 5 = .ok (.iload 4, 2) := by decide +kernel
theorem d_RO_nthOf_7 : decode c_RO_nthOf 7 = .ok (.bipush 48, 2) := by decide +kernel
theorem d_RO_nthOf_9 : decode c_RO_nthOf 9 = .ok (.if_icmp .ge 30, 3) := by decide +kernel
theorem d_RO_nthOf_12 : decode c_RO_nthOf 12 = .ok (.lload_n 0, 1) := by decide +kernel
theorem d_RO_nthOf_13 : decode c_RO_nthOf 13 = .ok (.iload 4, 2) := by decide +kernel
theorem d_RO_nthOf_15 : decode c_RO_nthOf 15 = .ok (.lushr, 1) := by decide +kernel
theorem d_RO_nthOf_16 : decode c_RO_nthOf 16 = .ok (.lconst 1, 1) := by decide +kernel
theorem d_RO_nthOf_17 : decode c_RO_nthOf 17 = .ok (.land, 1) := by decide +kernel
theorem d_RO_nthOf_18 : decode c_RO_nthOf 18 = .ok (.lconst 0, 1) := by decide +kernel
theorem d_RO_nthOf_19 : decode c_RO_nthOf 19 = .ok (.lcmp, 1) := by decide +kernel
theorem d_RO_nthOf_20 : decode c_RO_nthOf 20 = .ok (.ifCond .eq 13, 3) := by decide +kernel
theorem d_RO_nthOf_23 : decode c_RO_nthOf 23 = .ok (.iload_n 3, 1) := by decide +kernel
theorem d_RO_nthOf_24 : decode c_RO_nthOf 24 = .ok (.ifCond .ne 6, 3) := by decide +kernel
theorem d_RO_nthOf_27 : decode c_RO_nthOf 27 = .ok (.iload 4, 2) := by decide +kernel
theorem d_RO_nthOf_29 : decode c_RO_nthOf 29 = .ok (.ireturn, 1) := by decide +kernel
theorem d_RO_nthOf_30 : decode c_RO_nthOf 30 = .ok (.iinc 3 (-1), 3) := by decide +kernel
theorem d_RO_nthOf_33 : decode c_RO_nthOf 33 = .ok (.iinc 4 1, 3) := by decide +kernel
theorem d_RO_nthOf_36 : decode c_RO_nthOf 36 = .ok (.goto (-31), 3) := by decide +kernel
theorem d_RO_nthOf_39 : decode c_RO_nthOf 39 = .ok (.iconst (-1), 1) := by decide +kernel
theorem d_RO_nthOf_40 : decode c_RO_nthOf 40 = .ok (.ireturn, 1) := by decide +kernel
theorem d_Md_init_0 : decode c_Md_init 0 = .ok (.aload_n 0, 1) := by decide +kernel
theorem d_Md_init_1 : decode c_Md_init 1 = .ok (.invokespecial 1, 3) := by decide +kernel
theorem d_Md_init_4 : decode c_Md_init 4 = .ok (.aload_n 0, 1) := by decide +kernel
theorem d_Md_init_5 : decode c_Md_init 5 = .ok (.sipush 200, 3) := by decide +kernel
theorem d_Md_init_8 : decode c_Md_init 8 = .ok (.newarray .int, 2) := by decide +kernel
theorem d_Md_init_10 : decode c_Md_init 10 = .ok (.putfield 7, 3) := by decide +kernel
theorem d_Md_init_13 : decode c_Md_init 13 = .ok (.aload_n 0, 1) := by decide +kernel
theorem d_Md_init_14 : decode c_Md_init 14 = .ok (.sipush 200, 3) := by decide +kernel
theorem d_Md_init_17 : decode c_Md_init 17 = .ok (.newarray .int, 2) := by decide +kernel
theorem d_Md_init_19 : decode c_Md_init 19 = .ok (.putfield 13, 3) := by decide +kernel
theorem d_Md_init_22 : decode c_Md_init 22 = .ok (.aload_n 0, 1) := by decide +kernel
theorem d_Md_init_23 : decode c_Md_init 23 = .ok (.sipush 200, 3) := by decide +kernel
theorem d_Md_init_26 : decode c_Md_init 26 = .ok (.newarray .int, 2) := by decide +kernel
theorem d_Md_init_28 : decode c_Md_init 28 = .ok (.putfield 16, 3) := by decide +kernel
theorem d_Md_init_31 : decode c_Md_init 31 = .ok (.aload_n 0, 1) := by decide +kernel
theorem d_Md_init_32 : decode c_Md_init 32 = .ok (.sipush 200, 3) := by decide +kernel
theorem d_Md_init_35 : decode c_Md_init 35 = .ok (.newarray .boolean, 2) := by decide +kernel
theorem d_Md_init_37 : decode c_Md_init 37 = .ok (.putfield 19, 3) := by decide +kernel
theorem d_Md_init_40 : decode c_Md_init 40 = .ok (.aload_n 0, 1) := by decide +kernel
theorem d_Md_init_41 : decode c_Md_init 41 = .ok (.bipush 48, 2) := by decide +kernel
theorem d_Md_init_43 : decode c_Md_init 43 = .ok (.newarray .int, 2) := by decide +kernel
theorem d_Md_init_45 : decode c_Md_init 45 = .ok (.putfield 23, 3) := by decide +kernel
theorem d_Md_init_48 : decode c_Md_init 48 = .ok (.aload_n 0, 1) := by decide +kernel
theorem d_Md_init_49 : decode c_Md_init 49 = .ok (.sipush 2304, 3) := by decide +kernel
theorem d_Md_init_52 : decode c_Md_init 52 = .ok (.newarray .boolean, 2) := by decide +kernel
theorem d_Md_init_54 : decode c_Md_init 54 = .ok (.putfield 26, 3) := by decide +kernel
theorem d_Md_init_57 : decode c_Md_init 57 = .ok (.aload_n 0, 1) := by decide +kernel
theorem d_Md_init_58 : decode c_Md_init 58 = .ok (.sipush 2304, 3) := by decide +kernel
theorem d_Md_init_61 : decode c_Md_init 61 = .ok (.newarray .boolean, 2) := by decide +kernel
theorem d_Md_init_63 : decode c_Md_init 63 = .ok (.putfield 29, 3) := by decide +kernel
theorem d_Md_init_66 : decode c_Md_init 66 = .ok (.aload_n 0, 1) := by decide +kernel
theorem d_Md_init_67 : decode c_Md_init 67 = .ok (.bipush 48, 2) := by decide +kernel
theorem d_Md_init_69 : decode c_Md_init 69 = .ok (.newarray .int, 2) := by decide +kernel
theorem d_Md_init_71 : decode c_Md_init 71 = .ok (.putfield 32, 3) := by decide +kernel
theorem d_Md_init_74 : decode c_Md_init 74 = .ok (.aload_n 0, 1) := by decide +kernel
theorem d_Md_init_75 : decode c_Md_init 75 = .ok (.bipush 48, 2) := by decide +kernel
theorem d_Md_init_77 : decode c_Md_init 77 = .ok (.newarray .int, 2) := by decide +kernel
theorem d_Md_init_79 : decode c_Md_init 79 = .ok (.putfield 35, 3) := by decide +kernel
theorem d_Md_init_82 : decode c_Md_init 82 = .ok (.aload_n 0, 1) := by decide +kernel
theorem d_Md_init_83 : decode c_Md_init 83 = .ok (.bipush 48, 2) := by decide +kernel
theorem d_Md_init_85 : decode c_Md_init 85 = .ok (.newarray .int, 2) := by decide +kernel
theorem d_Md_init_87 : decode c_Md_init 87 = .ok (.putfield 38, 3) := by decide +kernel
theorem d_Md_init_90 : decode c_Md_init 90 = .ok (.aload_n 0, 1) := by decide +kernel
theorem d_Md_init_91 : decode c_Md_init 91 = .ok (.sipush 144, 3) := by decide +kernel
theorem d_Md_init_94 : decode c_Md_init 94 = .ok (.newarray .boolean, 2) := by decide +kernel
theorem d_Md_init_96 : decode c_Md_init 96 = .ok (.putfield 41, 3) := by decide +kernel
theorem d_Md_init_99 : decode c_Md_init 99 = .ok (.aload_n 0, 1) := by decide +kernel
theorem d_Md_init_100 : decode c_Md_init 100 = .ok (.bipush 12, 2) := by decide +kernel
theorem d_Md_init_102 : decode c_Md_init 102 = .ok (.newarray .int, 2) := by decide +kernel
theorem d_Md_init_104 : decode c_Md_init 104 = .ok (.putfield 44, 3) := by decide +kernel
theorem d_Md_init_107 : decode c_Md_init 107 = .ok (.aload_n 0, 1) := by decide +kernel
theorem d_Md_init_108 : decode c_Md_init 108 = .ok (.bipush 8, 2) := by decide +kernel
theorem d_Md_init_110 : decode c_Md_init 110 = .ok (.newarray .int, 2) := by decide +kernel
theorem d_Md_init_112 : decode c_Md_init 112 = .ok (.putfield 47, 3) := by decide +kernel
theorem d_Md_init_115 : decode c_Md_init 115 = .ok (.aload_n 0, 1) := by decide +kernel
theorem d_Md_init_116 : decode c_Md_init 116 = .ok (.sipush 384, 3) := by decide +kernel
theorem d_Md_init_119 : decode c_Md_init 119 = .ok (.newarray .int, 2) := by decide +kernel
theorem d_Md_init_121 : decode c_Md_init 121 = .ok (.putfield 50, 3) := by decide +kernel
theorem d_Md_init_124 : decode c_Md_init 124 = .ok (.aload_n 0, 1) := by decide +kernel
theorem d_Md_init_125 : decode c_Md_init 125 = .ok (.sipush 18432, 3) := by decide +kernel
theorem d_Md_init_128 : decode c_Md_init 128 = .ok (.newarray .boolean, 2) := by decide +kernel
theorem d_Md_init_130 : decode c_Md_init 130 = .ok (.putfield 53, 3) := by decide +kernel
theorem d_Md_init_133 : decode c_Md_init 133 = .ok (.iconst 0, 1) := by decide +kernel
theorem d_Md_init_134 : decode c_Md_init 134 = .ok (.istore_n 1, 1) := by decide +kernel
theorem d_Md_init_135 : decode c_Md_init 135 = .ok (.iload_n 1, 1) := by decide +kernel
theorem d_Md_init_136 : decode c_Md_init 136 = .ok (.bipush 48, 2) := by decide +kernel
theorem d_Md_init_138 : decode c_Md_init 138 = .ok (.if_icmp .ge 16, 3) := by decide +kernel
theorem d_Md_init_141 : decode c_Md_init 141 = .ok (.aload_n 0, 1) := by decide +kernel
theorem d_Md_init_142 : decode c_Md_init 142 = .ok (.getfield 38, 3) := by decide +kernel
theorem d_Md_init_145 : decode c_Md_init 145 = .ok (.iload_n 1, 1) := by decide +kernel
theorem d_Md_init_146 : decode c_Md_init 146 = .ok (.iconst (-1), 1) := by decide +kernel
theorem d_Md_init_147 : decode c_Md_init 147 = .ok (.iastore, 1) := by decide +kernel
theorem d_Md_init_148 : decode c_Md_init 148 = .ok (.iinc 1 1, 3) := by decide +kernel
theorem d_Md_init_151 : decode c_Md_init 151 = .ok (.goto (-16), 3) := by decide +kernel
theorem d_Md_init_154 : decode c_Md_init 154 = .ok (.return_, 1) := by decide +kernel
theorem d_Md_thrown_0 : decode c_Md_thrown 0 = .ok (.aload_n 0, 1) := by decide +kernel
theorem d_Md_thrown_1 : decode c_Md_thrown 1 = .ok (.getfield 56, 3) := by decide +kernel
theorem d_Md_thrown_4 : decode c_Md_thrown 4 = .ok (.ireturn, 1) := by decide +kernel
theorem d_Md_goes_0 : decode c_Md_goes 0 = .ok (.aload_n 0, 1) := by decide +kernel
theorem d_Md_goes_1 : decode c_Md_goes 1 = .ok (.iload_n 1, 1) := by decide +kernel
theorem d_Md_goes_2 : decode c_Md_goes 2 = .ok (.ifCond .ne 7, 3) := by decide +kernel
theorem d_Md_goes_5 : decode c_Md_goes 5 = .ok (.iconst 1, 1) := by decide +kernel
theorem d_Md_goes_6 : decode c_Md_goes 6 = .ok (.goto 12, 3) := by decide +kernel
theorem d_Md_goes_9 : decode c_Md_goes 9 = .ok (.iload_n 2, 1) := by decide +kernel
theorem d_Md_goes_10 : decode c_Md_goes 10 = .ok (.ifCond .ne 7, 3) := by decide +kernel
theorem d_Md_goes_13 : decode c_Md_goes 13 = .ok (.iconst 2, 1) := by decide +kernel
theorem d_Md_goes_14 : decode c_Md_goes 14 = .ok (.goto 4, 3) := by decide +kernel
theorem d_Md_goes_17 : decode c_Md_goes 17 = .ok (.iconst 0, 1) := by decide +kernel
theorem d_Md_goes_18 : decode c_Md_goes 18 = .ok (.putfield 56, 3) := by decide +kernel
theorem d_Md_goes_21 : decode c_Md_goes 21 = .ok (.aload_n 0, 1) := by decide +kernel
theorem d_Md_goes_22 : decode c_Md_goes 22 = .ok (.getfield 56, 3) := by decide +kernel
theorem d_Md_goes_25 : decode c_Md_goes 25 = .ok (.ifCond .ne 7, 3) := by decide +kernel
theorem d_Md_goes_28 : decode c_Md_goes 28 = .ok (.iconst 1, 1) := by decide +kernel
theorem d_Md_goes_29 : decode c_Md_goes 29 = .ok (.goto 4, 3) := by decide +kernel
theorem d_Md_goes_32 : decode c_Md_goes 32 = .ok (.iconst 0, 1) := by decide +kernel
theorem d_Md_goes_33 : decode c_Md_goes 33 = .ok (.ireturn, 1) := by decide +kernel
theorem d_Md_isContext_0 : decode c_Md_isContext 0 = .ok (.iload_n 1, 1) := by decide +kernel
theorem d_Md_isContext_1 : decode c_Md_isContext 1 = .ok (.ifCond .lt 15, 3) := by decide +kernel
theorem d_Md_isContext_4 : decode c_Md_isContext 4 = .ok (.iload_n 1, 1) := by decide +kernel
theorem d_Md_isContext_5 : decode c_Md_isContext 5 = .ok (.aload_n 0, 1) := by decide +kernel
theorem d_Md_isContext_6 : decode c_Md_isContext 6 = .ok (.getfield 60, 3) := by decide +kernel
theorem d_Md_isContext_9 : decode c_Md_isContext 9 = .ok (.if_icmp .ge 7, 3) := by decide +kernel
theorem d_Md_isContext_12 : decode c_Md_isContext 12 = .ok (.iconst 1, 1) := by decide +kernel
theorem d_Md_isContext_13 : decode c_Md_isContext 13 = .ok (.goto 4, 3) := by decide +kernel
theorem d_Md_isContext_16 : decode c_Md_isContext 16 = .ok (.iconst 0, 1) := by decide +kernel
theorem d_Md_isContext_17 : decode c_Md_isContext 17 = .ok (.ireturn, 1) := by decide +kernel
theorem d_Md_join_0 : decode c_Md_join 0 = .ok (.iconst 0, 1) := by decide +kernel
theorem d_Md_join_1 : decode c_Md_join 1 = .ok (.istore_n 1, 1) := by decide +kernel
theorem d_Md_join_2 : decode c_Md_join 2 = .ok (.iload_n 1, 1) := by decide +kernel
theorem d_Md_join_3 : decode c_Md_join 3 = .ok (.aload_n 0, 1) := by decide +kernel
theorem d_Md_join_4 : decode c_Md_join 4 = .ok (.getfield 60, 3) := by decide +kernel
theorem d_Md_join_7 : decode c_Md_join 7 = .ok (.if_icmp .ge 16, 3) := by decide +kernel
theorem d_Md_join_10 : decode c_Md_join 10 = .ok (.aload_n 0, 1) := by decide +kernel
theorem d_Md_join_11 : decode c_Md_join 11 = .ok (.getfield 23, 3) := by decide +kernel
theorem d_Md_join_14 : decode c_Md_join 14 = .ok (.iload_n 1, 1) := by decide +kernel
theorem d_Md_join_15 : decode c_Md_join 15 = .ok (.iload_n 1, 1) := by decide +kernel
theorem d_Md_join_16 : decode c_Md_join 16 = .ok (.iastore, 1) := by decide +kernel
theorem d_Md_join_17 : decode c_Md_join 17 = .ok (.iinc 1 1, 3) := by decide +kernel
theorem d_Md_join_20 : decode c_Md_join 20 = .ok (.goto (-18), 3) := by decide +kernel
theorem d_Md_join_23 : decode c_Md_join 23 = .ok (.iconst 1, 1) := by decide +kernel
theorem d_Md_join_24 : decode c_Md_join 24 = .ok (.istore_n 1, 1) := by decide +kernel
theorem d_Md_join_25 : decode c_Md_join 25 = .ok (.iload_n 1, 1) := by decide +kernel
theorem d_Md_join_26 : decode c_Md_join 26 = .ok (.ifCond .eq 116, 3) := by decide +kernel
theorem d_Md_join_29 : decode c_Md_join 29 = .ok (.iconst 0, 1) := by decide +kernel
theorem d_Md_join_30 : decode c_Md_join 30 = .ok (.istore_n 1, 1) := by decide +kernel
theorem d_Md_join_31 : decode c_Md_join 31 = .ok (.iconst 0, 1) := by decide +kernel
theorem d_Md_join_32 : decode c_Md_join 32 = .ok (.istore_n 2, 1) := by decide +kernel
theorem d_Md_join_33 : decode c_Md_join 33 = .ok (.iload_n 2, 1) := by decide +kernel
theorem d_Md_join_34 : decode c_Md_join 34 = .ok (.aload_n 0, 1) := by decide +kernel
theorem d_Md_join_35 : decode c_Md_join 35 = .ok (.getfield 63, 3) := by decide +kernel
theorem d_Md_join_38 : decode c_Md_join 38 = .ok (.if_icmp .ge 101, 3) := by decide +kernel
theorem d_Md_join_41 : decode c_Md_join 41 = .ok (.aload_n 0, 1) := by decide +kernel
theorem d_Md_join_42 : decode c_Md_join 42 = .ok (.getfield 23, 3) := by decide +kernel
theorem d_Md_join_45 : decode c_Md_join 45 = .ok (.aload_n 0, 1) := by decide +kernel
theorem d_Md_join_46 : decode c_Md_join 46 = .ok (.getfield 7, 3) := by decide +kernel
theorem d_Md_join_49 : decode c_Md_join 49 = .ok (.iload_n 2, 1) := by decide +kernel
theorem d_Md_join_50 : decode c_Md_join 50 = .ok (.iaload, 1) := by decide +kernel
theorem d_Md_join_51 : decode c_Md_join 51 = .ok (.iaload, 1) := by decide +kernel
theorem d_Md_join_52 : decode c_Md_join 52 = .ok (.istore_n 3, 1) := by decide +kernel
theorem d_Md_join_53 : decode c_Md_join 53 = .ok (.aload_n 0, 1) := by decide +kernel
theorem d_Md_join_54 : decode c_Md_join 54 = .ok (.getfield 23, 3) := by decide +kernel
theorem d_Md_join_57 : decode c_Md_join 57 = .ok (.aload_n 0, 1) := by decide +kernel
theorem d_Md_join_58 : decode c_Md_join 58 = .ok (.getfield 13, 3) := by decide +kernel
theorem d_Md_join_61 : decode c_Md_join 61 = .ok (.iload_n 2, 1) := by decide +kernel
theorem d_Md_join_62 : decode c_Md_join 62 = .ok (.iaload, 1) := by decide +kernel
theorem d_Md_join_63 : decode c_Md_join 63 = .ok (.iaload, 1) := by decide +kernel
theorem d_Md_join_64 : decode c_Md_join 64 = .ok (.istore 4, 2) := by decide +kernel
theorem d_Md_join_66 : decode c_Md_join 66 = .ok (.aload_n 0, 1) := by decide +kernel
theorem d_Md_join_67 : decode c_Md_join 67 = .ok (.getfield 19, 3) := by decide +kernel
theorem d_Md_join_70 : decode c_Md_join 70 = .ok (.iload_n 2, 1) := by decide +kernel
theorem d_Md_join_71 : decode c_Md_join 71 = .ok (.baload, 1) := by decide +kernel
theorem d_Md_join_72 : decode c_Md_join 72 = .ok (.ifCond .ne 61, 3) := by decide +kernel
theorem d_Md_join_75 : decode c_Md_join 75 = .ok (.aload_n 0, 1) := by decide +kernel
theorem d_Md_join_76 : decode c_Md_join 76 = .ok (.getfield 16, 3) := by decide +kernel
theorem d_Md_join_79 : decode c_Md_join 79 = .ok (.iload_n 2, 1) := by decide +kernel
theorem d_Md_join_80 : decode c_Md_join 80 = .ok (.iaload, 1) := by decide +kernel
theorem d_Md_join_81 : decode c_Md_join 81 = .ok (.iconst 3, 1) := by decide +kernel
theorem d_Md_join_82 : decode c_Md_join 82 = .ok (.if_icmp .ne 51, 3) := by decide +kernel
theorem d_Md_join_85 : decode c_Md_join 85 = .ok (.iload_n 3, 1) := by decide +kernel
theorem d_Md_join_86 : decode c_Md_join 86 = .ok (.iload 4, 2) := by decide +kernel
theorem d_Md_join_88 : decode c_Md_join 88 = .ok (.if_icmp .eq 45, 3) := by decide +kernel
theorem d_Md_join_91 : decode c_Md_join 91 = .ok (.iload_n 3, 1) := by decide +kernel
theorem d_Md_join_92 : decode c_Md_join 92 = .ok (.iload 4, 2) := by decide +kernel
theorem d_Md_join_94 : decode c_Md_join 94 = .ok (.if_icmp .ge 7, 3) := by decide +kernel
theorem d_Md_join_97 : decode c_Md_join 97 = .ok (.iload_n 3, 1) := by decide +kernel
theorem d_Md_join_98 : decode c_Md_join 98 = .ok (.goto 5, 3) := by decide +kernel
theorem d_Md_join_101 : decode c_Md_join 101 = .ok (.iload 4, 2) := by decide +kernel
theorem d_Md_join_103 : decode c_Md_join 103 = .ok (.istore 5, 2) := by decide +kernel
theorem d_Md_join_105 : decode c_Md_join 105 = .ok (.aload_n 0, 1) := by decide +kernel
theorem d_Md_join_106 : decode c_Md_join 106 = .ok (.getfield 23, 3) := by decide +kernel
theorem d_Md_join_109 : decode c_Md_join 109 = .ok (.aload_n 0, 1) := by decide +kernel
theorem d_Md_join_110 : decode c_Md_join 110 = .ok (.getfield 7, 3) := by decide +kernel
theorem d_Md_join_113 : decode c_Md_join 113 = .ok (.iload_n 2, 1) := by decide +kernel
theorem d_Md_join_114 : decode c_Md_join 114 = .ok (.iaload, 1) := by decide +kernel
theorem d_Md_join_115 : decode c_Md_join 115 = .ok (.iload 5, 2) := by decide +kernel
theorem d_Md_join_117 : decode c_Md_join 117 = .ok (.iastore, 1) := by decide +kernel
theorem d_Md_join_118 : decode c_Md_join 118 = .ok (.aload_n 0, 1) := by decide +kernel
theorem d_Md_join_119 : decode c_Md_join 119 = .ok (.getfield 23, 3) := by decide +kernel
theorem d_Md_join_122 : decode c_Md_join 122 = .ok (.aload_n 0, 1) := by decide +kernel
theorem d_Md_join_123 : decode c_Md_join 123 = .ok (.getfield 13, 3) := by decide +kernel
theorem d_Md_join_126 : decode c_Md_join 126 = .ok (.iload_n 2, 1) := by decide +kernel
theorem d_Md_join_127 : decode c_Md_join 127 = .ok (.iaload, 1) := by decide +kernel
theorem d_Md_join_128 : decode c_Md_join 128 = .ok (.iload 5, 2) := by decide +kernel
theorem d_Md_join_130 : decode c_Md_join 130 = .ok (.iastore, 1) := by decide +kernel
theorem d_Md_join_131 : decode c_Md_join 131 = .ok (.iconst 1, 1) := by decide +kernel
theorem d_Md_join_132 : decode c_Md_join 132 = .ok (.istore_n 1, 1) := by decide +kernel
theorem d_Md_join_133 : decode c_Md_join 133 = .ok (.iinc 2 1, 3) := by decide +kernel
theorem d_Md_join_136 : decode c_Md_join 136 = .ok (.goto (-103), 3) := by decide +kernel
theorem d_Md_join_139 : decode c_Md_join 139 = .ok (.goto (-114), 3) := by decide +kernel
theorem d_Md_join_142 : decode c_Md_join 142 = .ok (.return_, 1) := by decide +kernel
theorem d_Md_renew_0 : decode c_Md_renew 0 = .ok (.aload_n 0, 1) := by decide +kernel
theorem d_Md_renew_1 : decode c_Md_renew 1 = .ok (.invokevirtual 66, 3) := by decide +kernel
theorem d_Md_renew_4 : decode c_Md_renew 4 = .ok (.iconst 0, 1) := by decide +kernel
theorem d_Md_renew_5 : decode c_Md_renew 5 = .ok (.istore_n 1, 1) := by decide +kernel
theorem d_Md_renew_6 : decode c_Md_renew 6 = .ok (.iload_n 1, 1) := by decide +kernel
theorem d_Md_renew_7 : decode c_Md_renew 7 = .ok (.sipush 2304, 3) := by decide +kernel
theorem d_Md_renew_10 : decode c_Md_renew 10 = .ok (.if_icmp .ge 16, 3) := by decide +kernel
theorem d_Md_renew_13 : decode c_Md_renew 13 = .ok (.aload_n 0, 1) := by decide +kernel
theorem d_Md_renew_14 : decode c_Md_renew 14 = .ok (.getfield 26, 3) := by decide +kernel
theorem d_Md_renew_17 : decode c_Md_renew 17 = .ok (.iload_n 1, 1) := by decide +kernel
theorem d_Md_renew_18 : decode c_Md_renew 18 = .ok (.iconst 0, 1) := by decide +kernel
theorem d_Md_renew_19 : decode c_Md_renew 19 = .ok (.bastore, 1) := by decide +kernel
theorem d_Md_renew_20 : decode c_Md_renew 20 = .ok (.iinc 1 1, 3) := by decide +kernel
theorem d_Md_renew_23 : decode c_Md_renew 23 = .ok (.goto (-17), 3) := by decide +kernel
theorem d_Md_renew_26 : decode c_Md_renew 26 = .ok (.iconst 0, 1) := by decide +kernel
theorem d_Md_renew_27 : decode c_Md_renew 27 = .ok (.istore_n 1, 1) := by decide +kernel
theorem d_Md_renew_28 : decode c_Md_renew 28 = .ok (.iload_n 1, 1) := by decide +kernel
theorem d_Md_renew_29 : decode c_Md_renew 29 = .ok (.aload_n 0, 1) := by decide +kernel
theorem d_Md_renew_30 : decode c_Md_renew 30 = .ok (.getfield 63, 3) := by decide +kernel
theorem d_Md_renew_33 : decode c_Md_renew 33 = .ok (.if_icmp .ge 60, 3) := by decide +kernel
theorem d_Md_renew_36 : decode c_Md_renew 36 = .ok (.aload_n 0, 1) := by decide +kernel
theorem d_Md_renew_37 : decode c_Md_renew 37 = .ok (.getfield 19, 3) := by decide +kernel
theorem d_Md_renew_40 : decode c_Md_renew 40 = .ok (.iload_n 1, 1) := by decide +kernel
theorem d_Md_renew_41 : decode c_Md_renew 41 = .ok (.baload, 1) := by decide +kernel
theorem d_Md_renew_42 : decode c_Md_renew 42 = .ok (.ifCond .ne 45, 3) := by decide +kernel
theorem d_Md_renew_45 : decode c_Md_renew 45 = .ok (.aload_n 0, 1) := by decide +kernel
theorem d_Md_renew_46 : decode c_Md_renew 46 = .ok (.getfield 16, 3) := by decide +kernel
theorem d_Md_renew_49 : decode c_Md_renew 49 = .ok (.iload_n 1, 1) := by decide +kernel
theorem d_Md_renew_50 : decode c_Md_renew 50 = .ok (.iaload, 1) := by decide +kernel
theorem d_Md_renew_51 : decode c_Md_renew 51 = .ok (.iconst 3, 1) := by decide +kernel
theorem d_Md_renew_52 : decode c_Md_renew 52 = .ok (.if_icmp .ge 35, 3) := by decide +kernel
theorem d_Md_renew_55 : decode c_Md_renew 55 = .ok (.aload_n 0, 1) := by decide +kernel
theorem d_Md_renew_56 : decode c_Md_renew 56 = .ok (.getfield 26, 3) := by decide +kernel
theorem d_Md_renew_59 : decode c_Md_renew 59 = .ok (.bipush 48, 2) := by decide +kernel
theorem d_Md_renew_61 : decode c_Md_renew 61 = .ok (.aload_n 0, 1) := by decide +kernel
theorem d_Md_renew_62 : decode c_Md_renew 62 = .ok (.getfield 23, 3) := by decide +kernel
theorem d_Md_renew_65 : decode c_Md_renew 65 = .ok (.aload_n 0, 1) := by decide +kernel
theorem d_Md_renew_66 : decode c_Md_renew 66 = .ok (.getfield 7, 3) := by decide +kernel
theorem d_Md_renew_69 : decode c_Md_renew 69 = .ok (.iload_n 1, 1) := by decide +kernel
theorem d_Md_renew_70 : decode c_Md_renew 70 = .ok (.iaload, 1) := by decide +kernel
theorem d_Md_renew_71 : decode c_Md_renew 71 = .ok (.iaload, 1) := by decide +kernel
theorem d_Md_renew_72 : decode c_Md_renew 72 = .ok (.imul, 1) := by decide +kernel
theorem d_Md_renew_73 : decode c_Md_renew 73 = .ok (.aload_n 0, 1) := by decide +kernel
theorem d_Md_renew_74 : decode c_Md_renew 74 = .ok (.getfield 23, 3) := by decide +kernel
theorem d_Md_renew_77 : decode c_Md_renew 77 = .ok (.aload_n 0, 1) := by decide +kernel
theorem d_Md_renew_78 : decode c_Md_renew 78 = .ok (.getfield 13, 3) := by decide +kernel
theorem d_Md_renew_81 : decode c_Md_renew 81 = .ok (.iload_n 1, 1) := by decide +kernel
theorem d_Md_renew_82 : decode c_Md_renew 82 = .ok (.iaload, 1) := by decide +kernel
theorem d_Md_renew_83 : decode c_Md_renew 83 = .ok (.iaload, 1) := by decide +kernel
theorem d_Md_renew_84 : decode c_Md_renew 84 = .ok (.iadd, 1) := by decide +kernel
theorem d_Md_renew_85 : decode c_Md_renew 85 = .ok (.iconst 1, 1) := by decide +kernel
theorem d_Md_renew_86 : decode c_Md_renew 86 = .ok (.bastore, 1) := by decide +kernel
theorem d_Md_renew_87 : decode c_Md_renew 87 = .ok (.iinc 1 1, 3) := by decide +kernel
theorem d_Md_renew_90 : decode c_Md_renew 90 = .ok (.goto (-62), 3) := by decide +kernel
theorem d_Md_renew_93 : decode c_Md_renew 93 = .ok (.iconst 0, 1) := by decide +kernel
theorem d_Md_renew_94 : decode c_Md_renew 94 = .ok (.istore_n 1, 1) := by decide +kernel
theorem d_Md_renew_95 : decode c_Md_renew 95 = .ok (.iload_n 1, 1) := by decide +kernel
theorem d_Md_renew_96 : decode c_Md_renew 96 = .ok (.sipush 2304, 3) := by decide +kernel
theorem d_Md_renew_99 : decode c_Md_renew 99 = .ok (.if_icmp .ge 21, 3) := by decide +kernel
theorem d_Md_renew_102 : decode c_Md_renew 102 = .ok (.aload_n 0, 1) := by decide +kernel
theorem d_Md_renew_103 : decode c_Md_renew 103 = .ok (.getfield 29, 3) := by decide +kernel
theorem d_Md_renew_106 : decode c_Md_renew 106 = .ok (.iload_n 1, 1) := by decide +kernel
theorem d_Md_renew_107 : decode c_Md_renew 107 = .ok (.aload_n 0, 1) := by decide +kernel
theorem d_Md_renew_108 : decode c_Md_renew 108 = .ok (.getfield 26, 3) := by decide +kernel
theorem d_Md_renew_111 : decode c_Md_renew 111 = .ok (.iload_n 1, 1) := by decide +kernel
theorem d_Md_renew_112 : decode c_Md_renew 112 = .ok (.baload, 1) := by decide +kernel
theorem d_Md_renew_113 : decode c_Md_renew 113 = .ok (.bastore, 1) := by decide +kernel
theorem d_Md_renew_114 : decode c_Md_renew 114 = .ok (.iinc 1 1, 3) := by decide +kernel
theorem d_Md_renew_117 : decode c_Md_renew 117 = .ok (.goto (-22), 3) := by decide +kernel
theorem d_Md_renew_120 : decode c_Md_renew 120 = .ok (.iconst 0, 1) := by decide +kernel
theorem d_Md_renew_121 : decode c_Md_renew 121 = .ok (.istore_n 1, 1) := by decide +kernel
theorem d_Md_renew_122 : decode c_Md_renew 122 = .ok (.iload_n 1, 1) := by decide +kernel
theorem d_Md_renew_123 : decode c_Md_renew 123 = .ok (.aload_n 0, 1) := by decide +kernel
theorem d_Md_renew_124 : decode c_Md_renew 124 = .ok (.getfield 60, 3) := by decide +kernel
theorem d_Md_renew_127 : decode c_Md_renew 127 = .ok (.if_icmp .ge 99, 3) := by decide +kernel
theorem d_Md_renew_130 : decode c_Md_renew 130 = .ok (.iconst 0, 1) := by decide +kernel
theorem d_Md_renew_131 : decode c_Md_renew 131 = .ok (.istore_n 2, 1) := by decide +kernel
theorem d_Md_renew_132 : decode c_Md_renew 132 = .ok (.iload_n 2, 1) := by decide +kernel
theorem d_Md_renew_133 : decode c_Md_renew 133 = .ok (.aload_n 0, 1) := by decide +kernel
theorem d_Md_renew_134 : decode c_Md_renew 134 = .ok (.getfield 60, 3) := by decide +kernel
theorem d_Md_renew_137 : decode c_Md_renew 137 = .ok (.if_icmp .ge 83, 3) := by decide +kernel
theorem d_Md_renew_140 : decode c_Md_renew 140 = .ok (.iconst 0, 1) := by decide +kernel
theorem d_Md_renew_141 : decode c_Md_renew 141 = .ok (.istore_n 3, 1) := by decide +kernel
theorem d_Md_renew_142 : decode c_Md_renew 142 = .ok (.iload_n 3, 1) := by decide +kernel
theorem d_Md_renew_143 : decode c_Md_renew 143 = .ok (.aload_n 0, 1) := by decide +kernel
theorem d_Md_renew_144 : decode c_Md_renew 144 = .ok (.getfield 60, 3) := by decide +kernel
theorem d_Md_renew_147 : decode c_Md_renew 147 = .ok (.if_icmp .ge 67, 3) := by decide +kernel
theorem d_Md_renew_150 : decode c_Md_renew 150 = .ok (.aload_n 0, 1) := by decide +kernel
theorem d_Md_renew_151 : decode c_Md_renew 151 = .ok (.getfield 29, 3) := by decide +kernel
theorem d_Md_renew_154 : decode c_Md_renew 154 = .ok (.bipush 48, 2) := by decide +kernel
theorem d_Md_renew_156 : decode c_Md_renew 156 = .ok (.iload_n 2, 1) := by decide +kernel
theorem d_Md_renew_157 : decode c_Md_renew 157 = .ok (.imul, 1) := by decide +kernel
theorem d_Md_renew_158 : decode c_Md_renew 158 = .ok (.iload_n 1, 1) := by decide +kernel
theorem d_Md_renew_159 : decode c_Md_renew 159 = .ok (.iadd, 1) := by decide +kernel
theorem d_Md_renew_160 : decode c_Md_renew 160 = .ok (.baload, 1) := by decide +kernel
theorem d_Md_renew_161 : decode c_Md_renew 161 = .ok (.ifCond .eq 53, 3) := by decide +kernel
theorem d_Md_renew_164 : decode c_Md_renew 164 = .ok (.aload_n 0, 1) := by decide +kernel
theorem d_Md_renew_165 : decode c_Md_renew 165 = .ok (.getfield 29, 3) := by decide +kernel
theorem d_Md_renew_168 : decode c_Md_renew 168 = .ok (.bipush 48, 2) := by decide +kernel
theorem d_Md_renew_170 : decode c_Md_renew 170 = .ok (.iload_n 2, 1) := by decide +kernel
theorem d_Md_renew_171 : decode c_Md_renew 171 = .ok (.imul, 1) := by decide +kernel
theorem d_Md_renew_172 : decode c_Md_renew 172 = .ok (.iload_n 3, 1) := by decide +kernel
theorem d_Md_renew_173 : decode c_Md_renew 173 = .ok (.iadd, 1) := by decide +kernel
theorem d_Md_renew_174 : decode c_Md_renew 174 = .ok (.aload_n 0, 1) := by decide +kernel
theorem d_Md_renew_175 : decode c_Md_renew 175 = .ok (.getfield 29, 3) := by decide +kernel
theorem d_Md_renew_178 : decode c_Md_renew 178 = .ok (.bipush 48, 2) := by decide +kernel
theorem d_Md_renew_180 : decode c_Md_renew 180 = .ok (.iload_n 2, 1) := by decide +kernel
theorem d_Md_renew_181 : decode c_Md_renew 181 = .ok (.imul, 1) := by decide +kernel
theorem d_Md_renew_182 : decode c_Md_renew 182 = .ok (.iload_n 3, 1) := by decide +kernel
theorem d_Md_renew_183 : decode c_Md_renew 183 = .ok (.iadd, 1) := by decide +kernel
theorem d_Md_renew_184 : decode c_Md_renew 184 = .ok (.baload, 1) := by decide +kernel
theorem d_Md_renew_185 : decode c_Md_renew 185 = .ok (.ifCond .ne 17, 3) := by decide +kernel
theorem d_Md_renew_188 : decode c_Md_renew 188 = .ok (.aload_n 0, 1) := by decide +kernel
theorem d_Md_renew_189 : decode c_Md_renew 189 = .ok (.getfield 29, 3) := by decide +kernel
theorem d_Md_renew_192 : decode c_Md_renew 192 = .ok (.bipush 48, 2) := by decide +kernel
theorem d_Md_renew_194 : decode c_Md_renew 194 = .ok (.iload_n 1, 1) := by decide +kernel
theorem d_Md_renew_195 : decode c_Md_renew 195 = .ok (.imul, 1) := by decide +kernel
theorem d_Md_renew_196 : decode c_Md_renew 196 = .ok (.iload_n 3, 1) := by decide +kernel
theorem d_Md_renew_197 : decode c_Md_renew 197 = .ok (.iadd, 1) := by decide +kernel
theorem d_Md_renew_198 : decode c_Md_renew 198 = .ok (.baload, 1) := by decide +kernel
theorem d_Md_renew_199 : decode c_Md_renew 199 = .ok (.ifCond .eq 7, 3) := by decide +kernel
theorem d_Md_renew_202 : decode c_Md_renew 202 = .ok (.iconst 1, 1) := by decide +kernel
theorem d_Md_renew_203 : decode c_Md_renew 203 = .ok (.goto 4, 3) := by decide +kernel
theorem d_Md_renew_206 : decode c_Md_renew 206 = .ok (.iconst 0, 1) := by decide +kernel
theorem d_Md_renew_207 : decode c_Md_renew 207 = .ok (.bastore, 1) := by decide +kernel
theorem d_Md_renew_208 : decode c_Md_renew 208 = .ok (.iinc 3 1, 3) := by decide +kernel
theorem d_Md_renew_211 : decode c_Md_renew 211 = .ok (.goto (-69), 3) := by decide +kernel
theorem d_Md_renew_214 : decode c_Md_renew 214 = .ok (.iinc 2 1, 3) := by decide +kernel
theorem d_Md_renew_217 : decode c_Md_renew 217 = .ok (.goto (-85), 3) := by decide +kernel
theorem d_Md_renew_220 : decode c_Md_renew 220 = .ok (.iinc 1 1, 3) := by decide +kernel
theorem d_Md_renew_223 : decode c_Md_renew 223 = .ok (.goto (-101), 3) := by decide +kernel
theorem d_Md_renew_226 : decode c_Md_renew 226 = .ok (.return_, 1) := by decide +kernel
theorem d_Md_context_0 : decode c_Md_context 0 = .ok (.aload_n 0, 1) := by decide +kernel
theorem d_Md_context_1 : decode c_Md_context 1 = .ok (.aload_n 0, 1) := by decide +kernel
theorem d_Md_context_2 : decode c_Md_context 2 = .ok (.getfield 60, 3) := by decide +kernel
theorem d_Md_context_5 : decode c_Md_context 5 = .ok (.bipush 48, 2) := by decide +kernel
theorem d_Md_context_7 : decode c_Md_context 7 = .ok (.if_icmp .ge 7, 3) := by decide +kernel
theorem d_Md_context_10 : decode c_Md_context 10 = .ok (.iconst 1, 1) := by decide +kernel
theorem d_Md_context_11 : decode c_Md_context 11 = .ok (.goto 4, 3) := by decide +kernel
theorem d_Md_context_14 : decode c_Md_context 14 = .ok (.iconst 0, 1) := by decide +kernel
theorem d_Md_context_15 : decode c_Md_context 15 = .ok (.iconst 1, 1) := by decide +kernel
theorem d_Md_context_16 : decode c_Md_context 16 = .ok (.invokevirtual 69, 3) := by decide +kernel
theorem d_Md_context_19 : decode c_Md_context 19 = .ok (.ifCond .ne 5, 3) := by decide +kernel
theorem d_Md_context_22 : decode c_Md_context 22 = .ok (.iconst 0, 1) := by decide +kernel
theorem d_Md_context_23 : decode c_Md_context 23 = .ok (.ireturn, 1) := by decide +kernel
theorem d_Md_context_24 : decode c_Md_context 24 = .ok (.aload_n 0, 1) := by decide +kernel
theorem d_Md_context_25 : decode c_Md_context 25 = .ok (.dup, 1) := by decide +kernel
theorem d_Md_context_26 : decode c_Md_context 26 = .ok (.getfield 60, 3) := by decide +kernel
theorem d_Md_context_29 : decode c_Md_context 29 = .ok (.iconst 1, 1) := by decide +kernel
theorem d_Md_context_30 : decode c_Md_context 30 = .ok (.iadd, 1) := by decide +kernel
theorem d_Md_context_31 : decode c_Md_context 31 = .ok (.putfield 60, 3) := by decide +kernel
theorem d_Md_context_34 : decode c_Md_context 34 = .ok (.aload_n 0, 1) := by decide +kernel
theorem d_Md_context_35 : decode c_Md_context 35 = .ok (.invokevirtual 73, 3) := by decide +kernel
theorem d_Md_context_38 : decode c_Md_context 38 = .ok (.aload_n 0, 1) := by decide +kernel
theorem d_Md_context_39 : decode c_Md_context 39 = .ok (.getfield 60, 3) := by decide +kernel
theorem d_Md_context_42 : decode c_Md_context 42 = .ok (.iconst 1, 1) := by decide +kernel
theorem d_Md_context_43 : decode c_Md_context 43 = .ok (.isub, 1) := by decide +kernel
theorem d_Md_context_44 : decode c_Md_context 44 = .ok (.ireturn, 1) := by decide +kernel
theorem d_Md_measure_0 : decode c_Md_measure 0 = .ok (.iconst 0, 1) := by decide +kernel
theorem d_Md_measure_1 : decode c_Md_measure 1 = .ok (.istore_n 2, 1) := by decide +kernel
theorem d_Md_measure_2 : decode c_Md_measure 2 = .ok (.iload_n 2, 1) := by decide +kernel
theorem d_Md_measure_3 : decode c_Md_measure 3 = .ok (.bipush 48, 2) := by decide +kernel
theorem d_Md_measure_5 : decode c_Md_measure 5 = .ok (.if_icmp .ge 26, 3) := by decide +kernel
theorem d_Md_measure_8 : decode c_Md_measure 8 = .ok (.aload_n 0, 1) := by decide +kernel
theorem d_Md_measure_9 : decode c_Md_measure 9 = .ok (.getfield 32, 3) := by decide +kernel
theorem d_Md_measure_12 : decode c_Md_measure 12 = .ok (.iload_n 2, 1) := by decide +kernel
theorem d_Md_measure_13 : decode c_Md_measure 13 = .ok (.iload_n 2, 1) := by decide +kernel
theorem d_Md_measure_14 : decode c_Md_measure 14 = .ok (.iload_n 1, 1) := by decide +kernel
theorem d_Md_measure_15 : decode c_Md_measure 15 = .ok (.if_icmp .ne 7, 3) := by decide +kernel
theorem d_Md_measure_18 : decode c_Md_measure 18 = .ok (.iconst 0, 1) := by decide +kernel
theorem d_Md_measure_19 : decode c_Md_measure 19 = .ok (.goto 5, 3) := by decide +kernel
theorem d_Md_measure_22 : decode c_Md_measure 22 = .ok (.bipush 99, 2) := by decide +kernel
theorem d_Md_measure_24 : decode c_Md_measure 24 = .ok (.iastore, 1) := by decide +kernel
theorem d_Md_measure_25 : decode c_Md_measure 25 = .ok (.iinc 2 1, 3) := by decide +kernel
theorem d_Md_measure_28 : decode c_Md_measure 28 = .ok (.goto (-26), 3) := by decide +kernel
theorem d_Md_measure_31 : decode c_Md_measure 31 = .ok (.iconst 1, 1) := by decide +kernel
theorem d_Md_measure_32 : decode c_Md_measure 32 = .ok (.istore_n 2, 1) := by decide +kernel
theorem d_Md_measure_33 : decode c_Md_measure 33 = .ok (.iload_n 2, 1) := by decide +kernel
theorem d_Md_measure_34 : decode c_Md_measure 34 = .ok (.ifCond .eq 77, 3) := by decide +kernel
theorem d_Md_measure_37 : decode c_Md_measure 37 = .ok (.iconst 0, 1) := by decide +kernel
theorem d_Md_measure_38 : decode c_Md_measure 38 = .ok (.istore_n 2, 1) := by decide +kernel
theorem d_Md_measure_39 : decode c_Md_measure 39 = .ok (.iconst 0, 1) := by decide +kernel
theorem d_Md_measure_40 : decode c_Md_measure 40 = .ok (.istore_n 3, 1) := by decide +kernel
theorem d_Md_measure_41 : decode c_Md_measure 41 = .ok (.iload_n 3, 1) := by decide +kernel
theorem d_Md_measure_42 : decode c_Md_measure 42 = .ok (.sipush 2304, 3) := by decide +kernel
theorem d_Md_measure_45 : decode c_Md_measure 45 = .ok (.if_icmp .ge 63, 3) := by decide +kernel
theorem d_Md_measure_48 : decode c_Md_measure 48 = .ok (.aload_n 0, 1) := by decide +kernel
theorem d_Md_measure_49 : decode c_Md_measure 49 = .ok (.getfield 26, 3) := by decide +kernel
theorem d_Md_measure_52 : decode c_Md_measure 52 = .ok (.iload_n 3, 1) := by decide +kernel
theorem d_Md_measure_53 : decode c_Md_measure 53 = .ok (.baload, 1) := by decide +kernel
theorem d_Md_measure_54 : decode c_Md_measure 54 = .ok (.ifCond .eq 48, 3) := by decide +kernel
theorem d_Md_measure_57 : decode c_Md_measure 57 = .ok (.aload_n 0, 1) := by decide +kernel
theorem d_Md_measure_58 : decode c_Md_measure 58 = .ok (.getfield 32, 3) := by decide +kernel
theorem d_Md_measure_61 : decode c_Md_measure 61 = .ok (.iload_n 3, 1) := by decide +kernel
theorem d_Md_measure_62 : decode c_Md_measure 62 = .ok (.bipush 48, 2) := by decide +kernel
theorem d_Md_measure_64 : decode c_Md_measure 64 = .ok (.irem, 1) := by decide +kernel
theorem d_Md_measure_65 : decode c_Md_measure 65 = .ok (.iaload, 1) := by decide +kernel
theorem d_Md_measure_66 : decode c_Md_measure 66 = .ok (.iconst 1, 1) := by decide +kernel
theorem d_Md_measure_67 : decode c_Md_measure 67 = .ok (.iadd, 1) := by decide +kernel
theorem d_Md_measure_68 : decode c_Md_measure 68 = .ok (.aload_n 0, 1) := by decide +kernel
theorem d_Md_measure_69 : decode c_Md_measure 69 = .ok (.getfield 32, 3) := by decide +kernel
theorem d_Md_measure_72 : decode c_Md_measure 72 = .ok (.iload_n 3, 1) := by decide +kernel
theorem d_Md_measure_73 : decode c_Md_measure 73 = .ok (.bipush 48, 2) := by decide +kernel
theorem d_Md_measure_75 : decode c_Md_measure 75 = .ok (.idiv, 1) := by decide +kernel
theorem d_Md_measure_76 : decode c_Md_measure 76 = .ok (.iaload, 1) := by decide +kernel
theorem d_Md_measure_77 : decode c_Md_measure 77 = .ok (.if_icmp .ge 25, 3) := by decide +kernel
theorem d_Md_measure_80 : decode c_Md_measure 80 = .ok (.aload_n 0, 1) := by decide +kernel
theorem d_Md_measure_81 : decode c_Md_measure 81 = .ok (.getfield 32, 3) := by decide +kernel
theorem d_Md_measure_84 : decode c_Md_measure 84 = .ok (.iload_n 3, 1) := by decide +kernel
theorem d_Md_measure_85 : decode c_Md_measure 85 = .ok (.bipush 48, 2) := by decide +kernel
theorem d_Md_measure_87 : decode c_Md_measure 87 = .ok (.idiv, 1) := by decide +kernel
theorem d_Md_measure_88 : decode c_Md_measure 88 = .ok (.aload_n 0, 1) := by decide +kernel
theorem d_Md_measure_89 : decode c_Md_measure 89 = .ok (.getfield 32, 3) := by decide +kernel
theorem d_Md_measure_92 : decode c_Md_measure 92 = .ok (.iload_n 3, 1) := by decide +kernel
theorem d_Md_measure_93 : decode c_Md_measure 93 = .ok (.bipush 48, 2) := by decide +kernel
theorem d_Md_measure_95 : decode c_Md_measure 95 = .ok (.irem, 1) := by decide +kernel
theorem d_Md_measure_96 : decode c_Md_measure 96 = .ok (.iaload, 1) := by decide +kernel
theorem d_Md_measure_97 : decode c_Md_measure 97 = .ok (.iconst 1, 1) := by decide +kernel
theorem d_Md_measure_98 : decode c_Md_measure 98 = .ok (.iadd, 1) := by decide +kernel
theorem d_Md_measure_99 : decode c_Md_measure 99 = .ok (.iastore, 1) := by decide +kernel
theorem d_Md_measure_100 : decode c_Md_measure 100 = .ok (.iconst 1, 1) := by decide +kernel
theorem d_Md_measure_101 : decode c_Md_measure 101 = .ok (.istore_n 2, 1) := by decide +kernel
theorem d_Md_measure_102 : decode c_Md_measure 102 = .ok (.iinc 3 1, 3) := by decide +kernel
theorem d_Md_measure_105 : decode c_Md_measure 105 = .ok (.goto (-64), 3) := by decide +kernel
theorem d_Md_measure_108 : decode c_Md_measure 108 = .ok (.goto (-75), 3) := by decide +kernel
theorem d_Md_measure_111 : decode c_Md_measure 111 = .ok (.return_, 1) := by decide +kernel
theorem d_Md_walk_0 : decode c_Md_walk 0 = .ok (.aload_n 0, 1) := by decide +kernel
theorem d_Md_walk_1 : decode c_Md_walk 1 = .ok (.iload_n 2, 1) := by decide +kernel
theorem d_Md_walk_2 : decode c_Md_walk 2 = .ok (.invokevirtual 76, 3) := by decide +kernel
theorem d_Md_walk_5 : decode c_Md_walk 5 = .ok (.iload_n 1, 1) := by decide +kernel
theorem d_Md_walk_6 : decode c_Md_walk 6 = .ok (.istore 4, 2) := by decide +kernel
theorem d_Md_walk_8 : decode c_Md_walk 8 = .ok (.iload 4, 2) := by decide +kernel
theorem d_Md_walk_10 : decode c_Md_walk 10 = .ok (.iload_n 2, 1) := by decide +kernel
theorem d_Md_walk_11 : decode c_Md_walk 11 = .ok (.if_icmp .eq 93, 3) := by decide +kernel
theorem d_Md_walk_14 : decode c_Md_walk 14 = .ok (.aload_n 0, 1) := by decide +kernel
theorem d_Md_walk_15 : decode c_Md_walk 15 = .ok (.getfield 35, 3) := by decide +kernel
theorem d_Md_walk_18 : decode c_Md_walk 18 = .ok (.aload_n 0, 1) := by decide +kernel
theorem d_Md_walk_19 : decode c_Md_walk 19 = .ok (.getfield 80, 3) := by decide +kernel
theorem d_Md_walk_22 : decode c_Md_walk 22 = .ok (.iload 4, 2) := by decide +kernel
theorem d_Md_walk_24 : decode c_Md_walk 24 = .ok (.iastore, 1) := by decide +kernel
theorem d_Md_walk_25 : decode c_Md_walk 25 = .ok (.aload_n 0, 1) := by decide +kernel
theorem d_Md_walk_26 : decode c_Md_walk 26 = .ok (.dup, 1) := by decide +kernel
theorem d_Md_walk_27 : decode c_Md_walk 27 = .ok (.getfield 80, 3) := by decide +kernel
theorem d_Md_walk_30 : decode c_Md_walk 30 = .ok (.iconst 1, 1) := by decide +kernel
theorem d_Md_walk_31 : decode c_Md_walk 31 = .ok (.iadd, 1) := by decide +kernel
theorem d_Md_walk_32 : decode c_Md_walk 32 = .ok (.putfield 80, 3) := by decide +kernel
theorem d_Md_walk_35 : decode c_Md_walk 35 = .ok (.iconst (-1), 1) := by decide +kernel
theorem d_Md_walk_36 : decode c_Md_walk 36 = .ok (.istore 5, 2) := by decide +kernel
theorem d_Md_walk_38 : decode c_Md_walk 38 = .ok (.bipush 47, 2) := by decide +kernel
theorem d_Md_walk_40 : decode c_Md_walk 40 = .ok (.istore 6, 2) := by decide +kernel
theorem d_Md_walk_42 : decode c_Md_walk 42 = .ok (.iload 6, 2) := by decide +kernel
theorem d_Md_walk_44 : decode c_Md_walk 44 = .ok (.ifCond .lt 53, 3) := by decide +kernel
theorem d_Md_walk_47 : decode c_Md_walk 47 = .ok (.aload_n 0, 1) := by decide +kernel
theorem d_Md_walk_48 : decode c_Md_walk 48 = .ok (.getfield 26, 3) := by decide +kernel
theorem d_Md_walk_51 : decode c_Md_walk 51 = .ok (.bipush 48, 2) := by decide +kernel
theorem d_Md_walk_53 : decode c_Md_walk 53 = .ok (.iload 4, 2) := by decide +kernel
theorem d_Md_walk_55 : decode c_Md_walk 55 = .ok (.imul, 1) := by decide +kernel
theorem d_Md_walk_56 : decode c_Md_walk 56 = .ok (.iload 6, 2) := by decide +kernel
theorem d_Md_walk_58 : decode c_Md_walk 58 = .ok (.iadd, 1) := by decide +kernel
theorem d_Md_walk_59 : decode c_Md_walk 59 = .ok (.baload, 1) := by decide +kernel
theorem d_Md_walk_60 : decode c_Md_walk 60 = .ok (.ifCond .eq 27, 3) := by decide +kernel
theorem d_Md_walk_63 : decode c_Md_walk 63 = .ok (.aload_n 0, 1) := by decide +kernel
theorem d_Md_walk_64 : decode c_Md_walk 64 = .ok (.getfield 32, 3) := by decide +kernel
theorem d_Md_walk_67 : decode c_Md_walk 67 = .ok (.iload 6, 2) := by decide +kernel
theorem d_Md_walk_69 : decode c_Md_walk 69 = .ok (.iaload, 1) := by decide +kernel
theorem d_Md_walk_70 : decode c_Md_walk 70 = .ok (.aload_n 0, 1) := by decide +kernel
theorem d_Md_walk_71 : decode c_Md_walk 71 = .ok (.getfield 32, 3) := by decide +kernel
theorem d_Md_walk_74 : decode c_Md_walk 74 = .ok (.iload 4, 2) := by decide +kernel
theorem d_Md_walk_76 : decode c_Md_walk 76 = .ok (.iaload, 1) := by decide +kernel
theorem d_Md_walk_77 : decode c_Md_walk 77 = .ok (.iconst 1, 1) := by decide +kernel
theorem d_Md_walk_78 : decode c_Md_walk 78 = .ok (.isub, 1) := by decide +kernel
theorem d_Md_walk_79 : decode c_Md_walk 79 = .ok (.if_icmp .ne 8, 3) := by decide +kernel
theorem d_Md_walk_82 : decode c_Md_walk 82 = .ok (.iload 6, 2) := by decide +kernel
theorem d_Md_walk_84 : decode c_Md_walk 84 = .ok (.goto 5, 3) := by decide +kernel
theorem d_Md_walk_87 : decode c_Md_walk 87 = .ok (.iload 5, 2) := by decide +kernel
theorem d_Md_walk_89 : decode c_Md_walk 89 = .ok (.istore 5, 2) := by decide +kernel
theorem d_Md_walk_91 : decode c_Md_walk 91 = .ok (.iinc 6 (-1), 3) := by decide +kernel
theorem d_Md_walk_94 : decode c_Md_walk 94 = .ok (.goto (-52), 3) := by decide +kernel
theorem d_Md_walk_97 : decode c_Md_walk 97 = .ok (.iload 5, 2) := by decide +kernel
theorem d_Md_walk_99 : decode c_Md_walk 99 = .ok (.istore 4, 2) := by decide +kernel
theorem d_Md_walk_101 : decode c_Md_walk 101 = .ok (.goto (-93), 3) := by decide +kernel
theorem d_Md_walk_104 : decode c_Md_walk 104 = .ok (.iload_n 3, 1) := by decide +kernel
theorem d_Md_walk_105 : decode c_Md_walk 105 = .ok (.ifCond .eq 23, 3) := by decide +kernel
theorem d_Md_walk_108 : decode c_Md_walk 108 = .ok (.aload_n 0, 1) := by decide +kernel
theorem d_Md_walk_109 : decode c_Md_walk 109 = .ok (.getfield 35, 3) := by decide +kernel
theorem d_Md_walk_112 : decode c_Md_walk 112 = .ok (.aload_n 0, 1) := by decide +kernel
theorem d_Md_walk_113 : decode c_Md_walk 113 = .ok (.getfield 80, 3) := by decide +kernel
theorem d_Md_walk_116 : decode c_Md_walk 116 = .ok (.iload_n 2, 1) := by decide +kernel
theorem d_Md_walk_117 : decode c_Md_walk 117 = .ok (.iastore, 1) := by decide +kernel
theorem d_Md_walk_118 : decode c_Md_walk 118 = .ok (.aload_n 0, 1) := by decide +kernel
theorem d_Md_walk_119 : decode c_Md_walk 119 = .ok (.dup, 1) := by decide +kernel
theorem d_Md_walk_120 : decode c_Md_walk 120 = .ok (.getfield 80, 3) := by decide +kernel
theorem d_Md_walk_123 : decode c_Md_walk 123 = .ok (.iconst 1, 1) := by decide +kernel
theorem d_Md_walk_124 : decode c_Md_walk 124 = .ok (.iadd, 1) := by decide +kernel
theorem d_Md_walk_125 : decode c_Md_walk 125 = .ok (.putfield 80, 3) := by decide +kernel
theorem d_Md_walk_128 : decode c_Md_walk 128 = .ok (.return_, 1) := by decide +kernel
theorem d_Md_rings_0 : decode c_Md_rings 0 = .ok (.iload_n 3, 1) := by decide +kernel
theorem d_Md_rings_1 : decode c_Md_rings 1 = .ok (.iconst 3, 1) := by decide +kernel
theorem d_Md_rings_2 : decode c_Md_rings 2 = .ok (.if_icmp .ge 48, 3) := by decide +kernel
theorem d_Md_rings_5 : decode c_Md_rings 5 = .ok (.iload_n 1, 1) := by decide +kernel
theorem d_Md_rings_6 : decode c_Md_rings 6 = .ok (.iload_n 2, 1) := by decide +kernel
theorem d_Md_rings_7 : decode c_Md_rings 7 = .ok (.if_icmp .eq 17, 3) := by decide +kernel
theorem d_Md_rings_10 : decode c_Md_rings 10 = .ok (.aload_n 0, 1) := by decide +kernel
theorem d_Md_rings_11 : decode c_Md_rings 11 = .ok (.getfield 29, 3) := by decide +kernel
theorem d_Md_rings_14 : decode c_Md_rings 14 = .ok (.bipush 48, 2) := by decide +kernel
theorem d_Md_rings_16 : decode c_Md_rings 16 = .ok (.iload_n 2, 1) := by decide +kernel
theorem d_Md_rings_17 : decode c_Md_rings 17 = .ok (.imul, 1) := by decide +kernel
theorem d_Md_rings_18 : decode c_Md_rings 18 = .ok (.iload_n 1, 1) := by decide +kernel
theorem d_Md_rings_19 : decode c_Md_rings 19 = .ok (.iadd, 1) := by decide +kernel
theorem d_Md_rings_20 : decode c_Md_rings 20 = .ok (.baload, 1) := by decide +kernel
theorem d_Md_rings_21 : decode c_Md_rings 21 = .ok (.ifCond .eq 29, 3) := by decide +kernel
theorem d_Md_rings_24 : decode c_Md_rings 24 = .ok (.aload_n 0, 1) := by decide +kernel
theorem d_Md_rings_25 : decode c_Md_rings 25 = .ok (.iconst 1, 1) := by decide +kernel
theorem d_Md_rings_26 : decode c_Md_rings 26 = .ok (.putfield 80, 3) := by decide +kernel
theorem d_Md_rings_29 : decode c_Md_rings 29 = .ok (.aload_n 0, 1) := by decide +kernel
theorem d_Md_rings_30 : decode c_Md_rings 30 = .ok (.getfield 35, 3) := by decide +kernel
theorem d_Md_rings_33 : decode c_Md_rings 33 = .ok (.iconst 0, 1) := by decide +kernel
theorem d_Md_rings_34 : decode c_Md_rings 34 = .ok (.iload_n 1, 1) := by decide +kernel
theorem d_Md_rings_35 : decode c_Md_rings 35 = .ok (.iastore, 1) := by decide +kernel
theorem d_Md_rings_36 : decode c_Md_rings 36 = .ok (.iload_n 1, 1) := by decide +kernel
theorem d_Md_rings_37 : decode c_Md_rings 37 = .ok (.iload_n 2, 1) := by decide +kernel
theorem d_Md_rings_38 : decode c_Md_rings 38 = .ok (.if_icmp .eq 10, 3) := by decide +kernel
theorem d_Md_rings_41 : decode c_Md_rings 41 = .ok (.aload_n 0, 1) := by decide +kernel
theorem d_Md_rings_42 : decode c_Md_rings 42 = .ok (.iload_n 2, 1) := by decide +kernel
theorem d_Md_rings_43 : decode c_Md_rings 43 = .ok (.iload_n 1, 1) := by decide +kernel
theorem d_Md_rings_44 : decode c_Md_rings 44 = .ok (.iconst 0, 1) := by decide +kernel
theorem d_Md_rings_45 : decode c_Md_rings 45 = .ok (.invokevirtual 83, 3) := by decide +kernel
theorem d_Md_rings_48 : decode c_Md_rings 48 = .ok (.iconst 1, 1) := by decide +kernel
theorem d_Md_rings_49 : decode c_Md_rings 49 = .ok (.ireturn, 1) := by decide +kernel
theorem d_Md_rings_50 : decode c_Md_rings 50 = .ok (.iload_n 3, 1) := by decide +kernel
theorem d_Md_rings_51 : decode c_Md_rings 51 = .ok (.iconst 3, 1) := by decide +kernel
theorem d_Md_rings_52 : decode c_Md_rings 52 = .ok (.if_icmp .ne 81, 3) := by decide +kernel
theorem d_Md_rings_55 : decode c_Md_rings 55 = .ok (.aload_n 0, 1) := by decide +kernel
theorem d_Md_rings_56 : decode c_Md_rings 56 = .ok (.getfield 29, 3) := by decide +kernel
theorem d_Md_rings_59 : decode c_Md_rings 59 = .ok (.bipush 48, 2) := by decide +kernel
theorem d_Md_rings_61 : decode c_Md_rings 61 = .ok (.iload_n 1, 1) := by decide +kernel
theorem d_Md_rings_62 : decode c_Md_rings 62 = .ok (.imul, 1) := by decide +kernel
theorem d_Md_rings_63 : decode c_Md_rings 63 = .ok (.iload_n 2, 1) := by decide +kernel
theorem d_Md_rings_64 : decode c_Md_rings 64 = .ok (.iadd, 1) := by decide +kernel
theorem d_Md_rings_65 : decode c_Md_rings 65 = .ok (.baload, 1) := by decide +kernel
theorem d_Md_rings_66 : decode c_Md_rings 66 = .ok (.ifCond .ne 17, 3) := by decide +kernel
theorem d_Md_rings_69 : decode c_Md_rings 69 = .ok (.aload_n 0, 1) := by decide +kernel
theorem d_Md_rings_70 : decode c_Md_rings 70 = .ok (.getfield 29, 3) := by decide +kernel
theorem d_Md_rings_73 : decode c_Md_rings 73 = .ok (.bipush 48, 2) := by decide +kernel
theorem d_Md_rings_75 : decode c_Md_rings 75 = .ok (.iload_n 2, 1) := by decide +kernel
theorem d_Md_rings_76 : decode c_Md_rings 76 = .ok (.imul, 1) := by decide +kernel
theorem d_Md_rings_77 : decode c_Md_rings 77 = .ok (.iload_n 1, 1) := by decide +kernel
theorem d_Md_rings_78 : decode c_Md_rings 78 = .ok (.iadd, 1) := by decide +kernel
theorem d_Md_rings_79 : decode c_Md_rings 79 = .ok (.baload, 1) := by decide +kernel
theorem d_Md_rings_80 : decode c_Md_rings 80 = .ok (.ifCond .eq 53, 3) := by decide +kernel
theorem d_Md_rings_83 : decode c_Md_rings 83 = .ok (.aload_n 0, 1) := by decide +kernel
theorem d_Md_rings_84 : decode c_Md_rings 84 = .ok (.iconst 0, 1) := by decide +kernel
theorem d_Md_rings_85 : decode c_Md_rings 85 = .ok (.putfield 80, 3) := by decide +kernel
theorem d_Md_rings_88 : decode c_Md_rings 88 = .ok (.aload_n 0, 1) := by decide +kernel
theorem d_Md_rings_89 : decode c_Md_rings 89 = .ok (.aload_n 0, 1) := by decide +kernel
theorem d_Md_rings_90 : decode c_Md_rings 90 = .ok (.getfield 29, 3) := by decide +kernel
theorem d_Md_rings_93 : decode c_Md_rings 93 = .ok (.bipush 48, 2) := by decide +kernel
theorem d_Md_rings_95 : decode c_Md_rings 95 = .ok (.iload_n 1, 1) := by decide +kernel
theorem d_Md_rings_96 : decode c_Md_rings 96 = .ok (.imul, 1) := by decide +kernel
theorem d_Md_rings_97 : decode c_Md_rings 97 = .ok (.iload_n 2, 1) := by decide +kernel
theorem d_Md_rings_98 : decode c_Md_rings 98 = .ok (.iadd, 1) := by decide +kernel
theorem d_Md_rings_99 : decode c_Md_rings 99 = .ok (.baload, 1) := by decide +kernel
theorem d_Md_rings_100 : decode c_Md_rings 100 = .ok (.ifCond .eq 7, 3) := by decide +kernel
theorem d_Md_rings_103 : decode c_Md_rings 103 = .ok (.iload_n 1, 1) := by decide +kernel
theorem d_Md_rings_104 : decode c_Md_rings 104 = .ok (.goto 4, 3) := by decide +kernel
theorem d_Md_rings_107 : decode c_Md_rings 107 = .ok (.iload_n 2, 1) := by decide +kernel
theorem d_Md_rings_108 : decode c_Md_rings 108 = .ok (.aload_n 0, 1) := by decide +kernel
theorem d_Md_rings_109 : decode c_Md_rings 109 = .ok (.getfield 29, 3) := by decide +kernel
theorem d_Md_rings_112 : decode c_Md_rings 112 = .ok (.bipush 48, 2) := by decide +kernel
theorem d_Md_rings_114 : decode c_Md_rings 114 = .ok (.iload_n 1, 1) := by decide +kernel
theorem d_Md_rings_115 : decode c_Md_rings 115 = .ok (.imul, 1) := by decide +kernel
theorem d_Md_rings_116 : decode c_Md_rings 116 = .ok (.iload_n 2, 1) := by decide +kernel
theorem d_Md_rings_117 : decode c_Md_rings 117 = .ok (.iadd, 1) := by decide +kernel
theorem d_Md_rings_118 : decode c_Md_rings 118 = .ok (.baload, 1) := by decide +kernel
theorem d_Md_rings_119 : decode c_Md_rings 119 = .ok (.ifCond .eq 7, 3) := by decide +kernel
theorem d_Md_rings_122 : decode c_Md_rings 122 = .ok (.iload_n 2, 1) := by decide +kernel
theorem d_Md_rings_123 : decode c_Md_rings 123 = .ok (.goto 4, 3) := by decide +kernel
theorem d_Md_rings_126 : decode c_Md_rings 126 = .ok (.iload_n 1, 1) := by decide +kernel
theorem d_Md_rings_127 : decode c_Md_rings 127 = .ok (.iconst 1, 1) := by decide +kernel
theorem d_Md_rings_128 : decode c_Md_rings 128 = .ok (.invokevirtual 83, 3) := by decide +kernel
theorem d_Md_rings_131 : decode c_Md_rings 131 = .ok (.iconst 1, 1) := by decide +kernel
theorem d_Md_rings_132 : decode c_Md_rings 132 = .ok (.ireturn, 1) := by decide +kernel
theorem d_Md_rings_133 : decode c_Md_rings 133 = .ok (.iconst 0, 1) := by decide +kernel
theorem d_Md_rings_134 : decode c_Md_rings 134 = .ok (.ireturn, 1) := by decide +kernel
theorem d_Md_relate_0 : decode c_Md_relate 0 = .ok (.aload_n 0, 1) := by decide +kernel
theorem d_Md_relate_1 : decode c_Md_relate 1 = .ok (.aload_n 0, 1) := by decide +kernel
theorem d_Md_relate_2 : decode c_Md_relate 2 = .ok (.iload_n 1, 1) := by decide +kernel
theorem d_Md_relate_3 : decode c_Md_relate 3 = .ok (.invokevirtual 87, 3) := by decide +kernel
theorem d_Md_relate_6 : decode c_Md_relate 6 = .ok (.ifCond .eq 24, 3) := by decide +kernel
theorem d_Md_relate_9 : decode c_Md_relate 9 = .ok (.aload_n 0, 1) := by decide +kernel
theorem d_Md_relate_10 : decode c_Md_relate 10 = .ok (.iload_n 2, 1) := by decide +kernel
theorem d_Md_relate_11 : decode c_Md_relate 11 = .ok (.invokevirtual 87, 3) := by decide +kernel
theorem d_Md_relate_14 : decode c_Md_relate 14 = .ok (.ifCond .eq 16, 3) := by decide +kernel
theorem d_Md_relate_17 : decode c_Md_relate 17 = .ok (.iload_n 3, 1) := by decide +kernel
theorem d_Md_relate_18 : decode c_Md_relate 18 = .ok (.ifCond .lt 12, 3) := by decide +kernel
theorem d_Md_relate_21 : decode c_Md_relate 21 = .ok (.iload_n 3, 1) := by decide +kernel
theorem d_Md_relate_22 : decode c_Md_relate 22 = .ok (.iconst 4, 1) := by decide +kernel
theorem d_Md_relate_23 : decode c_Md_relate 23 = .ok (.if_icmp .gt 7, 3) := by decide +kernel
theorem d_Md_relate_26 : decode c_Md_relate 26 = .ok (.iconst 1, 1) := by decide +kernel
theorem d_Md_relate_27 : decode c_Md_relate 27 = .ok (.goto 4, 3) := by decide +kernel
theorem d_Md_relate_30 : decode c_Md_relate 30 = .ok (.iconst 0, 1) := by decide +kernel
theorem d_Md_relate_31 : decode c_Md_relate 31 = .ok (.aload_n 0, 1) := by decide +kernel
theorem d_Md_relate_32 : decode c_Md_relate 32 = .ok (.getfield 63, 3) := by decide +kernel
theorem d_Md_relate_35 : decode c_Md_relate 35 = .ok (.sipush 200, 3) := by decide +kernel
theorem d_Md_relate_38 : decode c_Md_relate 38 = .ok (.if_icmp .ge 7, 3) := by decide +kernel
theorem d_Md_relate_41 : decode c_Md_relate 41 = .ok (.iconst 1, 1) := by decide +kernel
theorem d_Md_relate_42 : decode c_Md_relate 42 = .ok (.goto 4, 3) := by decide +kernel
theorem d_Md_relate_45 : decode c_Md_relate 45 = .ok (.iconst 0, 1) := by decide +kernel
theorem d_Md_relate_46 : decode c_Md_relate 46 = .ok (.invokevirtual 69, 3) := by decide +kernel
theorem d_Md_relate_49 : decode c_Md_relate 49 = .ok (.ifCond .ne 5, 3) := by decide +kernel
theorem d_Md_relate_52 : decode c_Md_relate 52 = .ok (.iconst 0, 1) := by decide +kernel
theorem d_Md_relate_53 : decode c_Md_relate 53 = .ok (.ireturn, 1) := by decide +kernel
theorem d_Md_relate_54 : decode c_Md_relate 54 = .ok (.aload_n 0, 1) := by decide +kernel
theorem d_Md_relate_55 : decode c_Md_relate 55 = .ok (.aload_n 0, 1) := by decide +kernel
theorem d_Md_relate_56 : decode c_Md_relate 56 = .ok (.getfield 23, 3) := by decide +kernel
theorem d_Md_relate_59 : decode c_Md_relate 59 = .ok (.iload_n 1, 1) := by decide +kernel
theorem d_Md_relate_60 : decode c_Md_relate 60 = .ok (.iaload, 1) := by decide +kernel
theorem d_Md_relate_61 : decode c_Md_relate 61 = .ok (.aload_n 0, 1) := by decide +kernel
theorem d_Md_relate_62 : decode c_Md_relate 62 = .ok (.getfield 23, 3) := by decide +kernel
theorem d_Md_relate_65 : decode c_Md_relate 65 = .ok (.iload_n 2, 1) := by decide +kernel
theorem d_Md_relate_66 : decode c_Md_relate 66 = .ok (.iaload, 1) := by decide +kernel
theorem d_Md_relate_67 : decode c_Md_relate 67 = .ok (.iload_n 3, 1) := by decide +kernel
theorem d_Md_relate_68 : decode c_Md_relate 68 = .ok (.invokevirtual 91, 3) := by decide +kernel
theorem d_Md_relate_71 : decode c_Md_relate 71 = .ok (.ifCond .eq 5, 3) := by decide +kernel
theorem d_Md_relate_74 : decode c_Md_relate 74 = .ok (.iconst (-1), 1) := by decide +kernel
theorem d_Md_relate_75 : decode c_Md_relate 75 = .ok (.ireturn, 1) := by decide +kernel
theorem d_Md_relate_76 : decode c_Md_relate 76 = .ok (.aload_n 0, 1) := by decide +kernel
theorem d_Md_relate_77 : decode c_Md_relate 77 = .ok (.getfield 7, 3) := by decide +kernel
theorem d_Md_relate_80 : decode c_Md_relate 80 = .ok (.aload_n 0, 1) := by decide +kernel
theorem d_Md_relate_81 : decode c_Md_relate 81 = .ok (.getfield 63, 3) := by decide +kernel
theorem d_Md_relate_84 : decode c_Md_relate 84 = .ok (.iload_n 1, 1) := by decide +kernel
theorem d_Md_relate_85 : decode c_Md_relate 85 = .ok (.iastore, 1) := by decide +kernel
theorem d_Md_relate_86 : decode c_Md_relate 86 = .ok (.aload_n 0, 1) := by decide +kernel
theorem d_Md_relate_87 : decode c_Md_relate 87 = .ok (.getfield 13, 3) := by decide +kernel
theorem d_Md_relate_90 : decode c_Md_relate 90 = .ok (.aload_n 0, 1) := by decide +kernel
theorem d_Md_relate_91 : decode c_Md_relate 91 = .ok (.getfield 63, 3) := by decide +kernel
theorem d_Md_relate_94 : decode c_Md_relate 94 = .ok (.iload_n 2, 1) := by decide +kernel
theorem d_Md_relate_95 : decode c_Md_relate 95 = .ok (.iastore, 1) := by decide +kernel
theorem d_Md_relate_96 : decode c_Md_relate 96 = .ok (.aload_n 0, 1) := by decide +kernel
theorem d_Md_relate_97 : decode c_Md_relate 97 = .ok (.getfield 16, 3) := by decide +kernel
theorem d_Md_relate_100 : decode c_Md_relate 100 = .ok (.aload_n 0, 1) := by decide +kernel
theorem d_Md_relate_101 : decode c_Md_relate 101 = .ok (.getfield 63, 3) := by decide +kernel
theorem d_Md_relate_104 : decode c_Md_relate 104 = .ok (.iload_n 3, 1) := by decide +kernel
theorem d_Md_relate_105 : decode c_Md_relate 105 = .ok (.iastore, 1) := by decide +kernel
theorem d_Md_relate_106 : decode c_Md_relate 106 = .ok (.aload_n 0, 1) := by decide +kernel
theorem d_Md_relate_107 : decode c_Md_relate 107 = .ok (.dup, 1) := by decide +kernel
theorem d_Md_relate_108 : decode c_Md_relate 108 = .ok (.getfield 63, 3) := by decide +kernel
theorem d_Md_relate_111 : decode c_Md_relate 111 = .ok (.iconst 1, 1) := by decide +kernel
theorem d_Md_relate_112 : decode c_Md_relate 112 = .ok (.iadd, 1) := by decide +kernel
theorem d_Md_relate_113 : decode c_Md_relate 113 = .ok (.putfield 63, 3) := by decide +kernel
theorem d_Md_relate_116 : decode c_Md_relate 116 = .ok (.aload_n 0, 1) := by decide +kernel
theorem d_Md_relate_117 : decode c_Md_relate 117 = .ok (.invokevirtual 73, 3) := by decide +kernel
theorem d_Md_relate_120 : decode c_Md_relate 120 = .ok (.aload_n 0, 1) := by decide +kernel
theorem d_Md_relate_121 : decode c_Md_relate 121 = .ok (.getfield 63, 3) := by decide +kernel
theorem d_Md_relate_124 : decode c_Md_relate 124 = .ok (.iconst 1, 1) := by decide +kernel
theorem d_Md_relate_125 : decode c_Md_relate 125 = .ok (.isub, 1) := by decide +kernel
theorem d_Md_relate_126 : decode c_Md_relate 126 = .ok (.ireturn, 1) := by decide +kernel
theorem d_Md_ring_0 : decode c_Md_ring 0 = .ok (.aload_n 0, 1) := by decide +kernel
theorem d_Md_ring_1 : decode c_Md_ring 1 = .ok (.iload_n 1, 1) := by decide +kernel
theorem d_Md_ring_2 : decode c_Md_ring 2 = .ok (.ifCond .lt 7, 3) := by decide +kernel
theorem d_Md_ring_5 : decode c_Md_ring 5 = .ok (.iconst 1, 1) := by decide +kernel
theorem d_Md_ring_6 : decode c_Md_ring 6 = .ok (.goto 4, 3) := by decide +kernel
theorem d_Md_ring_9 : decode c_Md_ring 9 = .ok (.iconst 0, 1) := by decide +kernel
theorem d_Md_ring_10 : decode c_Md_ring 10 = .ok (.iconst 1, 1) := by decide +kernel
theorem d_Md_ring_11 : decode c_Md_ring 11 = .ok (.invokevirtual 69, 3) := by decide +kernel
theorem d_Md_ring_14 : decode c_Md_ring 14 = .ok (.ifCond .ne 5, 3) := by decide +kernel
theorem d_Md_ring_17 : decode c_Md_ring 17 = .ok (.iconst 0, 1) := by decide +kernel
theorem d_Md_ring_18 : decode c_Md_ring 18 = .ok (.ireturn, 1) := by decide +kernel
theorem d_Md_ring_19 : decode c_Md_ring 19 = .ok (.iload_n 1, 1) := by decide +kernel
theorem d_Md_ring_20 : decode c_Md_ring 20 = .ok (.aload_n 0, 1) := by decide +kernel
theorem d_Md_ring_21 : decode c_Md_ring 21 = .ok (.getfield 80, 3) := by decide +kernel
theorem d_Md_ring_24 : decode c_Md_ring 24 = .ok (.if_icmp .ge 12, 3) := by decide +kernel
theorem d_Md_ring_27 : decode c_Md_ring 27 = .ok (.aload_n 0, 1) := by decide +kernel
theorem d_Md_ring_28 : decode c_Md_ring 28 = .ok (.getfield 35, 3) := by decide +kernel
theorem d_Md_ring_31 : decode c_Md_ring 31 = .ok (.iload_n 1, 1) := by decide +kernel
theorem d_Md_ring_32 : decode c_Md_ring 32 = .ok (.iaload, 1) := by decide +kernel
theorem d_Md_ring_33 : decode c_Md_ring 33 = .ok (.goto 4, 3) := by decide +kernel
theorem d_Md_ring_36 : decode c_Md_ring 36 = .ok (.iconst (-1), 1) := by decide +kernel
theorem d_Md_ring_37 : decode c_Md_ring 37 = .ok (.ireturn, 1) := by decide +kernel
theorem d_Md_undo_0 : decode c_Md_undo 0 = .ok (.aload_n 0, 1) := by decide +kernel
theorem d_Md_undo_1 : decode c_Md_undo 1 = .ok (.iload_n 1, 1) := by decide +kernel
theorem d_Md_undo_2 : decode c_Md_undo 2 = .ok (.ifCond .lt 15, 3) := by decide +kernel
theorem d_Md_undo_5 : decode c_Md_undo 5 = .ok (.iload_n 1, 1) := by decide +kernel
theorem d_Md_undo_6 : decode c_Md_undo 6 = .ok (.aload_n 0, 1) := by decide +kernel
theorem d_Md_undo_7 : decode c_Md_undo 7 = .ok (.getfield 63, 3) := by decide +kernel
theorem d_Md_undo_10 : decode c_Md_undo 10 = .ok (.if_icmp .ge 7, 3) := by decide +kernel
theorem d_Md_undo_13 : decode c_Md_undo 13 = .ok (.iconst 1, 1) := by decide +kernel
theorem d_Md_undo_14 : decode c_Md_undo 14 = .ok (.goto 4, 3) := by decide +kernel
theorem d_Md_undo_17 : decode c_Md_undo 17 = .ok (.iconst 0, 1) := by decide +kernel
theorem d_Md_undo_18 : decode c_Md_undo 18 = .ok (.iconst 1, 1) := by decide +kernel
theorem d_Md_undo_19 : decode c_Md_undo 19 = .ok (.invokevirtual 69, 3) := by decide +kernel
theorem d_Md_undo_22 : decode c_Md_undo 22 = .ok (.ifCond .ne 5, 3) := by decide +kernel
theorem d_Md_undo_25 : decode c_Md_undo 25 = .ok (.iconst 0, 1) := by decide +kernel
theorem d_Md_undo_26 : decode c_Md_undo 26 = .ok (.ireturn, 1) := by decide +kernel
theorem d_Md_undo_27 : decode c_Md_undo 27 = .ok (.aload_n 0, 1) := by decide +kernel
theorem d_Md_undo_28 : decode c_Md_undo 28 = .ok (.getfield 19, 3) := by decide +kernel
theorem d_Md_undo_31 : decode c_Md_undo 31 = .ok (.iload_n 1, 1) := by decide +kernel
theorem d_Md_undo_32 : decode c_Md_undo 32 = .ok (.baload, 1) := by decide +kernel
theorem d_Md_undo_33 : decode c_Md_undo 33 = .ok (.istore_n 2, 1) := by decide +kernel
theorem d_Md_undo_34 : decode c_Md_undo 34 = .ok (.aload_n 0, 1) := by decide +kernel
theorem d_Md_undo_35 : decode c_Md_undo 35 = .ok (.getfield 19, 3) := by decide +kernel
theorem d_Md_undo_38 : decode c_Md_undo 38 = .ok (.iload_n 1, 1) := by decide +kernel
theorem d_Md_undo_39 : decode c_Md_undo 39 = .ok (.iconst 1, 1) := by decide +kernel
theorem d_Md_undo_40 : decode c_Md_undo 40 = .ok (.bastore, 1) := by decide +kernel
theorem d_Md_undo_41 : decode c_Md_undo 41 = .ok (.aload_n 0, 1) := by decide +kernel
theorem d_Md_undo_42 : decode c_Md_undo 42 = .ok (.invokevirtual 73, 3) := by decide +kernel
theorem d_Md_undo_45 : decode c_Md_undo 45 = .ok (.iload_n 2, 1) := by decide +kernel
theorem d_Md_undo_46 : decode c_Md_undo 46 = .ok (.ifCond .ne 7, 3) := by decide +kernel
theorem d_Md_undo_49 : decode c_Md_undo 49 = .ok (.iconst 1, 1) := by decide +kernel
theorem d_Md_undo_50 : decode c_Md_undo 50 = .ok (.goto 4, 3) := by decide +kernel
theorem d_Md_undo_53 : decode c_Md_undo 53 = .ok (.iconst 0, 1) := by decide +kernel
theorem d_Md_undo_54 : decode c_Md_undo 54 = .ok (.ireturn, 1) := by decide +kernel
theorem d_Md_order_0 : decode c_Md_order 0 = .ok (.aload_n 0, 1) := by decide +kernel
theorem d_Md_order_1 : decode c_Md_order 1 = .ok (.aload_n 0, 1) := by decide +kernel
theorem d_Md_order_2 : decode c_Md_order 2 = .ok (.iload_n 1, 1) := by decide +kernel
theorem d_Md_order_3 : decode c_Md_order 3 = .ok (.invokevirtual 87, 3) := by decide +kernel
theorem d_Md_order_6 : decode c_Md_order 6 = .ok (.ifCond .eq 15, 3) := by decide +kernel
theorem d_Md_order_9 : decode c_Md_order 9 = .ok (.aload_n 0, 1) := by decide +kernel
theorem d_Md_order_10 : decode c_Md_order 10 = .ok (.iload_n 2, 1) := by decide +kernel
theorem d_Md_order_11 : decode c_Md_order 11 = .ok (.invokevirtual 87, 3) := by decide +kernel
theorem d_Md_order_14 : decode c_Md_order 14 = .ok (.ifCond .eq 7, 3) := by decide +kernel
theorem d_Md_order_17 : decode c_Md_order 17 = .ok (.iconst 1, 1) := by decide +kernel
theorem d_Md_order_18 : decode c_Md_order 18 = .ok (.goto 4, 3) := by decide +kernel
theorem d_Md_order_21 : decode c_Md_order 21 = .ok (.iconst 0, 1) := by decide +kernel
theorem d_Md_order_22 : decode c_Md_order 22 = .ok (.iconst 1, 1) := by decide +kernel
theorem d_Md_order_23 : decode c_Md_order 23 = .ok (.invokevirtual 69, 3) := by decide +kernel
theorem d_Md_order_26 : decode c_Md_order 26 = .ok (.ifCond .ne 5, 3) := by decide +kernel
theorem d_Md_order_29 : decode c_Md_order 29 = .ok (.iconst 0, 1) := by decide +kernel
theorem d_Md_order_30 : decode c_Md_order 30 = .ok (.ireturn, 1) := by decide +kernel
theorem d_Md_order_31 : decode c_Md_order 31 = .ok (.aload_n 0, 1) := by decide +kernel
theorem d_Md_order_32 : decode c_Md_order 32 = .ok (.getfield 29, 3) := by decide +kernel
theorem d_Md_order_35 : decode c_Md_order 35 = .ok (.bipush 48, 2) := by decide +kernel
theorem d_Md_order_37 : decode c_Md_order 37 = .ok (.aload_n 0, 1) := by decide +kernel
theorem d_Md_order_38 : decode c_Md_order 38 = .ok (.getfield 23, 3) := by decide +kernel
theorem d_Md_order_41 : decode c_Md_order 41 = .ok (.iload_n 1, 1) := by decide +kernel
theorem d_Md_order_42 : decode c_Md_order 42 = .ok (.iaload, 1) := by decide +kernel
theorem d_Md_order_43 : decode c_Md_order 43 = .ok (.imul, 1) := by decide +kernel
theorem d_Md_order_44 : decode c_Md_order 44 = .ok (.aload_n 0, 1) := by decide +kernel
theorem d_Md_order_45 : decode c_Md_order 45 = .ok (.getfield 23, 3) := by decide +kernel
theorem d_Md_order_48 : decode c_Md_order 48 = .ok (.iload_n 2, 1) := by decide +kernel
theorem d_Md_order_49 : decode c_Md_order 49 = .ok (.iaload, 1) := by decide +kernel
theorem d_Md_order_50 : decode c_Md_order 50 = .ok (.iadd, 1) := by decide +kernel
theorem d_Md_order_51 : decode c_Md_order 51 = .ok (.baload, 1) := by decide +kernel
theorem d_Md_order_52 : decode c_Md_order 52 = .ok (.ifCond .eq 7, 3) := by decide +kernel
theorem d_Md_order_55 : decode c_Md_order 55 = .ok (.iconst 1, 1) := by decide +kernel
theorem d_Md_order_56 : decode c_Md_order 56 = .ok (.goto 32, 3) := by decide +kernel
theorem d_Md_order_59 : decode c_Md_order 59 = .ok (.aload_n 0, 1) := by decide +kernel
theorem d_Md_order_60 : decode c_Md_order 60 = .ok (.getfield 29, 3) := by decide +kernel
theorem d_Md_order_63 : decode c_Md_order 63 = .ok (.bipush 48, 2) := by decide +kernel
theorem d_Md_order_65 : decode c_Md_order 65 = .ok (.aload_n 0, 1) := by decide +kernel
theorem d_Md_order_66 : decode c_Md_order 66 = .ok (.getfield 23, 3) := by decide +kernel
theorem d_Md_order_69 : decode c_Md_order 69 = .ok (.iload_n 2, 1) := by decide +kernel
theorem d_Md_order_70 : decode c_Md_order 70 = .ok (.iaload, 1) := by decide +kernel
theorem d_Md_order_71 : decode c_Md_order 71 = .ok (.imul, 1) := by decide +kernel
theorem d_Md_order_72 : decode c_Md_order 72 = .ok (.aload_n 0, 1) := by decide +kernel
theorem d_Md_order_73 : decode c_Md_order 73 = .ok (.getfield 23, 3) := by decide +kernel
theorem d_Md_order_76 : decode c_Md_order 76 = .ok (.iload_n 1, 1) := by decide +kernel
theorem d_Md_order_77 : decode c_Md_order 77 = .ok (.iaload, 1) := by decide +kernel
theorem d_Md_order_78 : decode c_Md_order 78 = .ok (.iadd, 1) := by decide +kernel
theorem d_Md_order_79 : decode c_Md_order 79 = .ok (.baload, 1) := by decide +kernel
theorem d_Md_order_80 : decode c_Md_order 80 = .ok (.ifCond .eq 7, 3) := by decide +kernel
theorem d_Md_order_83 : decode c_Md_order 83 = .ok (.iconst (-1), 1) := by decide +kernel
theorem d_Md_order_84 : decode c_Md_order 84 = .ok (.goto 4, 3) := by decide +kernel
theorem d_Md_order_87 : decode c_Md_order 87 = .ok (.iconst 0, 1) := by decide +kernel
theorem d_Md_order_88 : decode c_Md_order 88 = .ok (.ireturn, 1) := by decide +kernel
theorem d_Md_isLink_0 : decode c_Md_isLink 0 = .ok (.aload_n 0, 1) := by decide +kernel
theorem d_Md_isLink_1 : decode c_Md_isLink 1 = .ok (.getfield 29, 3) := by decide +kernel
theorem d_Md_isLink_4 : decode c_Md_isLink 4 = .ok (.bipush 48, 2) := by decide +kernel
theorem d_Md_isLink_6 : decode c_Md_isLink 6 = .ok (.iload_n 1, 1) := by decide +kernel
theorem d_Md_isLink_7 : decode c_Md_isLink 7 = .ok (.imul, 1) := by decide +kernel
theorem d_Md_isLink_8 : decode c_Md_isLink 8 = .ok (.iload_n 2, 1) := by decide +kernel
theorem d_Md_isLink_9 : decode c_Md_isLink 9 = .ok (.iadd, 1) := by decide +kernel
theorem d_Md_isLink_10 : decode c_Md_isLink 10 = .ok (.baload, 1) := by decide +kernel
theorem d_Md_isLink_11 : decode c_Md_isLink 11 = .ok (.istore_n 3, 1) := by decide +kernel
theorem d_Md_isLink_12 : decode c_Md_isLink 12 = .ok (.iconst 0, 1) := by decide +kernel
theorem d_Md_isLink_13 : decode c_Md_isLink 13 = .ok (.istore 4, 2) := by decide +kernel
theorem d_Md_isLink_15 : decode c_Md_isLink 15 = .ok (.iload 4, 2) := by decide +kernel
theorem d_Md_isLink_17 : decode c_Md_isLink 17 = .ok (.aload_n 0, 1) := by decide +kernel
theorem d_Md_isLink_18 : decode c_Md_isLink 18 = .ok (.getfield 60, 3) := by decide +kernel
theorem d_Md_isLink_21 : decode c_Md_isLink 21 = .ok (.if_icmp .ge 49, 3) := by decide +kernel
theorem d_Md_isLink_24 : decode c_Md_isLink 24 = .ok (.iload_n 3, 1) := by decide +kernel
theorem d_Md_isLink_25 : decode c_Md_isLink 25 = .ok (.ifCond .eq 45, 3) := by decide +kernel
theorem d_Md_isLink_28 : decode c_Md_isLink 28 = .ok (.aload_n 0, 1) := by decide +kernel
theorem d_Md_isLink_29 : decode c_Md_isLink 29 = .ok (.getfield 29, 3) := by decide +kernel
theorem d_Md_isLink_32 : decode c_Md_isLink 32 = .ok (.bipush 48, 2) := by decide +kernel
theorem d_Md_isLink_34 : decode c_Md_isLink 34 = .ok (.iload_n 1, 1) := by decide +kernel
theorem d_Md_isLink_35 : decode c_Md_isLink 35 = .ok (.imul, 1) := by decide +kernel
theorem d_Md_isLink_36 : decode c_Md_isLink 36 = .ok (.iload 4, 2) := by decide +kernel
theorem d_Md_isLink_38 : decode c_Md_isLink 38 = .ok (.iadd, 1) := by decide +kernel
theorem d_Md_isLink_39 : decode c_Md_isLink 39 = .ok (.baload, 1) := by decide +kernel
theorem d_Md_isLink_40 : decode c_Md_isLink 40 = .ok (.ifCond .eq 18, 3) := by decide +kernel
theorem d_Md_isLink_43 : decode c_Md_isLink 43 = .ok (.aload_n 0, 1) := by decide +kernel
theorem d_Md_isLink_44 : decode c_Md_isLink 44 = .ok (.getfield 29, 3) := by decide +kernel
theorem d_Md_isLink_47 : decode c_Md_isLink 47 = .ok (.bipush 48, 2) := by decide +kernel
theorem d_Md_isLink_49 : decode c_Md_isLink 49 = .ok (.iload 4, 2) := by decide +kernel
theorem d_Md_isLink_51 : decode c_Md_isLink 51 = .ok (.imul, 1) := by decide +kernel
theorem d_Md_isLink_52 : decode c_Md_isLink 52 = .ok (.iload_n 2, 1) := by decide +kernel
theorem d_Md_isLink_53 : decode c_Md_isLink 53 = .ok (.iadd, 1) := by decide +kernel
theorem d_Md_isLink_54 : decode c_Md_isLink 54 = .ok (.baload, 1) := by decide +kernel
theorem d_Md_isLink_55 : decode c_Md_isLink 55 = .ok (.ifCond .ne 7, 3) := by decide +kernel
theorem d_Md_isLink_58 : decode c_Md_isLink 58 = .ok (.iconst 1, 1) := by decide +kernel
theorem d_Md_isLink_59 : decode c_Md_isLink 59 = .ok (.goto 4, 3) := by decide +kernel
theorem d_Md_isLink_62 : decode c_Md_isLink 62 = .ok (.iconst 0, 1) := by decide +kernel
theorem d_Md_isLink_63 : decode c_Md_isLink 63 = .ok (.istore_n 3, 1) := by decide +kernel
theorem d_Md_isLink_64 : decode c_Md_isLink 64 = .ok (.iinc 4 1, 3) := by decide +kernel
theorem d_Md_isLink_67 : decode c_Md_isLink 67 = .ok (.goto (-52), 3) := by decide +kernel
theorem d_Md_isLink_70 : decode c_Md_isLink 70 = .ok (.iload_n 3, 1) := by decide +kernel
theorem d_Md_isLink_71 : decode c_Md_isLink 71 = .ok (.ireturn, 1) := by decide +kernel
theorem d_Md_allLinks_0 : decode c_Md_allLinks 0 = .ok (.iconst 0, 1) := by decide +kernel
theorem d_Md_allLinks_1 : decode c_Md_allLinks 1 = .ok (.istore_n 1, 1) := by decide +kernel
theorem d_Md_allLinks_2 : decode c_Md_allLinks 2 = .ok (.iconst 0, 1) := by decide +kernel
theorem d_Md_allLinks_3 : decode c_Md_allLinks 3 = .ok (.istore_n 2, 1) := by decide +kernel
theorem d_Md_allLinks_4 : decode c_Md_allLinks 4 = .ok (.iload_n 2, 1) := by decide +kernel
theorem d_Md_allLinks_5 : decode c_Md_allLinks 5 = .ok (.sipush 2304, 3) := by decide +kernel
theorem d_Md_allLinks_8 : decode c_Md_allLinks 8 = .ok (.if_icmp .ge 32, 3) := by decide +kernel
theorem d_Md_allLinks_11 : decode c_Md_allLinks 11 = .ok (.aload_n 0, 1) := by decide +kernel
theorem d_Md_allLinks_12 : decode c_Md_allLinks 12 = .ok (.iload_n 2, 1) := by decide +kernel
theorem d_Md_allLinks_13 : decode c_Md_allLinks 13 = .ok (.bipush 48, 2) := by decide +kernel
theorem d_Md_allLinks_15 : decode c_Md_allLinks 15 = .ok (.idiv, 1) := by decide +kernel
theorem d_Md_allLinks_16 : decode c_Md_allLinks 16 = .ok (.iload_n 2, 1) := by decide +kernel
theorem d_Md_allLinks_17 : decode c_Md_allLinks 17 = .ok (.bipush 48, 2) := by decide +kernel
theorem d_Md_allLinks_19 : decode c_Md_allLinks 19 = .ok (.irem, 1) := by decide +kernel
theorem d_Md_allLinks_20 : decode c_Md_allLinks 20 = .ok (.invokevirtual 95, 3) := by decide +kernel
theorem d_Md_allLinks_23 : decode c_Md_allLinks 23 = .ok (.ifCond .eq 9, 3) := by decide +kernel
theorem d_Md_allLinks_26 : decode c_Md_allLinks 26 = .ok (.iload_n 1, 1) := by decide +kernel
theorem d_Md_allLinks_27 : decode c_Md_allLinks 27 = .ok (.iconst 1, 1) := by decide +kernel
theorem d_Md_allLinks_28 : decode c_Md_allLinks 28 = .ok (.iadd, 1) := by decide +kernel
theorem d_Md_allLinks_29 : decode c_Md_allLinks 29 = .ok (.goto 4, 3) := by decide +kernel
theorem d_Md_allLinks_32 : decode c_Md_allLinks 32 = .ok (.iload_n 1, 1) := by decide +kernel
theorem d_Md_allLinks_33 : decode c_Md_allLinks 33 = .ok (.istore_n 1, 1) := by decide +kernel
theorem d_Md_allLinks_34 : decode c_Md_allLinks 34 = .ok (.iinc 2 1, 3) := by decide +kernel
theorem d_Md_allLinks_37 : decode c_Md_allLinks 37 = .ok (.goto (-33), 3) := by decide +kernel
theorem d_Md_allLinks_40 : decode c_Md_allLinks 40 = .ok (.iload_n 1, 1) := by decide +kernel
theorem d_Md_allLinks_41 : decode c_Md_allLinks 41 = .ok (.ireturn, 1) := by decide +kernel
theorem d_Md_links_0 : decode c_Md_links 0 = .ok (.aload_n 0, 1) := by decide +kernel
theorem d_Md_links_1 : decode c_Md_links 1 = .ok (.iconst 0, 1) := by decide +kernel
theorem d_Md_links_2 : decode c_Md_links 2 = .ok (.putfield 56, 3) := by decide +kernel
theorem d_Md_links_5 : decode c_Md_links 5 = .ok (.aload_n 0, 1) := by decide +kernel
theorem d_Md_links_6 : decode c_Md_links 6 = .ok (.invokevirtual 99, 3) := by decide +kernel
theorem d_Md_links_9 : decode c_Md_links 9 = .ok (.ireturn, 1) := by decide +kernel
theorem d_Md_link_0 : decode c_Md_link 0 = .ok (.iload_n 1, 1) := by decide +kernel
theorem d_Md_link_1 : decode c_Md_link 1 = .ok (.ifCond .lt 16, 3) := by decide +kernel
theorem d_Md_link_4 : decode c_Md_link 4 = .ok (.iload_n 2, 1) := by decide +kernel
theorem d_Md_link_5 : decode c_Md_link 5 = .ok (.ifCond .eq 8, 3) := by decide +kernel
theorem d_Md_link_8 : decode c_Md_link 8 = .ok (.iload_n 2, 1) := by decide +kernel
theorem d_Md_link_9 : decode c_Md_link 9 = .ok (.iconst 1, 1) := by decide +kernel
theorem d_Md_link_10 : decode c_Md_link 10 = .ok (.if_icmp .ne 7, 3) := by decide +kernel
theorem d_Md_link_13 : decode c_Md_link 13 = .ok (.iconst 1, 1) := by decide +kernel
theorem d_Md_link_14 : decode c_Md_link 14 = .ok (.goto 4, 3) := by decide +kernel
theorem d_Md_link_17 : decode c_Md_link 17 = .ok (.iconst 0, 1) := by decide +kernel
theorem d_Md_link_18 : decode c_Md_link 18 = .ok (.istore_n 3, 1) := by decide +kernel
theorem d_Md_link_19 : decode c_Md_link 19 = .ok (.iconst 0, 1) := by decide +kernel
theorem d_Md_link_20 : decode c_Md_link 20 = .ok (.istore 4, 2) := by decide +kernel
theorem d_Md_link_22 : decode c_Md_link 22 = .ok (.iconst (-1), 1) := by decide +kernel
theorem d_Md_link_23 : decode c_Md_link 23 = .ok (.istore 5, 2) := by decide +kernel
theorem d_Md_link_25 : decode c_Md_link 25 = .ok (.iconst 0, 1) := by decide +kernel
theorem d_Md_link_26 : decode c_Md_link 26 = .ok (.istore 6, 2) := by decide +kernel
theorem d_Md_link_28 : decode c_Md_link 28 = .ok (.iload 6, 2) := by decide +kernel
theorem d_Md_link_30 : decode c_Md_link 30 = .ok (.sipush 2304, 3) := by decide +kernel
theorem d_Md_link_33 : decode c_Md_link 33 = .ok (.if_icmp .ge 53, 3) := by decide +kernel
theorem d_Md_link_36 : decode c_Md_link 36 = .ok (.iload_n 3, 1) := by decide +kernel
theorem d_Md_link_37 : decode c_Md_link 37 = .ok (.ifCond .eq 49, 3) := by decide +kernel
theorem d_Md_link_40 : decode c_Md_link 40 = .ok (.iload 5, 2) := by decide +kernel
theorem d_Md_link_42 : decode c_Md_link 42 = .ok (.iconst (-1), 1) := by decide +kernel
theorem d_Md_link_43 : decode c_Md_link 43 = .ok (.if_icmp .ne 43, 3) := by decide +kernel
theorem d_Md_link_46 : decode c_Md_link 46 = .ok (.aload_n 0, 1) := by decide +kernel
theorem d_Md_link_47 : decode c_Md_link 47 = .ok (.iload 6, 2) := by decide +kernel
theorem d_Md_link_49 : decode c_Md_link 49 = .ok (.bipush 48, 2) := by decide +kernel
theorem d_Md_link_51 : decode c_Md_link 51 = .ok (.idiv, 1) := by decide +kernel
theorem d_Md_link_52 : decode c_Md_link 52 = .ok (.iload 6, 2) := by decide +kernel
theorem d_Md_link_54 : decode c_Md_link 54 = .ok (.bipush 48, 2) := by decide +kernel
theorem d_Md_link_56 : decode c_Md_link 56 = .ok (.irem, 1) := by decide +kernel
theorem d_Md_link_57 : decode c_Md_link 57 = .ok (.invokevirtual 95, 3) := by decide +kernel
theorem d_Md_link_60 : decode c_Md_link 60 = .ok (.ifCond .eq 20, 3) := by decide +kernel
theorem d_Md_link_63 : decode c_Md_link 63 = .ok (.iload 4, 2) := by decide +kernel
theorem d_Md_link_65 : decode c_Md_link 65 = .ok (.iload_n 1, 1) := by decide +kernel
theorem d_Md_link_66 : decode c_Md_link 66 = .ok (.if_icmp .ne 8, 3) := by decide +kernel
theorem d_Md_link_69 : decode c_Md_link 69 = .ok (.iload 6, 2) := by decide +kernel
theorem d_Md_link_71 : decode c_Md_link 71 = .ok (.goto 4, 3) := by decide +kernel
theorem d_Md_link_74 : decode c_Md_link 74 = .ok (.iconst (-1), 1) := by decide +kernel
theorem d_Md_link_75 : decode c_Md_link 75 = .ok (.istore 5, 2) := by decide +kernel
theorem d_Md_link_77 : decode c_Md_link 77 = .ok (.iinc 4 1, 3) := by decide +kernel
theorem d_Md_link_80 : decode c_Md_link 80 = .ok (.iinc 6 1, 3) := by decide +kernel
theorem d_Md_link_83 : decode c_Md_link 83 = .ok (.goto (-55), 3) := by decide +kernel
theorem d_Md_link_86 : decode c_Md_link 86 = .ok (.aload_n 0, 1) := by decide +kernel
theorem d_Md_link_87 : decode c_Md_link 87 = .ok (.iload 5, 2) := by decide +kernel
theorem d_Md_link_89 : decode c_Md_link 89 = .ok (.iconst (-1), 1) := by decide +kernel
theorem d_Md_link_90 : decode c_Md_link 90 = .ok (.if_icmp .eq 7, 3) := by decide +kernel
theorem d_Md_link_93 : decode c_Md_link 93 = .ok (.iconst 1, 1) := by decide +kernel
theorem d_Md_link_94 : decode c_Md_link 94 = .ok (.goto 4, 3) := by decide +kernel
theorem d_Md_link_97 : decode c_Md_link 97 = .ok (.iconst 0, 1) := by decide +kernel
theorem d_Md_link_98 : decode c_Md_link 98 = .ok (.iconst 1, 1) := by decide +kernel
theorem d_Md_link_99 : decode c_Md_link 99 = .ok (.invokevirtual 69, 3) := by decide +kernel
theorem d_Md_link_102 : decode c_Md_link 102 = .ok (.ifCond .ne 5, 3) := by decide +kernel
theorem d_Md_link_105 : decode c_Md_link 105 = .ok (.iconst 0, 1) := by decide +kernel
theorem d_Md_link_106 : decode c_Md_link 106 = .ok (.ireturn, 1) := by decide +kernel
theorem d_Md_link_107 : decode c_Md_link 107 = .ok (.iload_n 2, 1) := by decide +kernel
theorem d_Md_link_108 : decode c_Md_link 108 = .ok (.ifCond .ne 11, 3) := by decide +kernel
theorem d_Md_link_111 : decode c_Md_link 111 = .ok (.iload 5, 2) := by decide +kernel
theorem d_Md_link_113 : decode c_Md_link 113 = .ok (.bipush 48, 2) := by decide +kernel
theorem d_Md_link_115 : decode c_Md_link 115 = .ok (.idiv, 1) := by decide +kernel
theorem d_Md_link_116 : decode c_Md_link 116 = .ok (.goto 8, 3) := by decide +kernel
theorem d_Md_link_119 : decode c_Md_link 119 = .ok (.iload 5, 2) := by decide +kernel
theorem d_Md_link_121 : decode c_Md_link 121 = .ok (.bipush 48, 2) := by decide +kernel
theorem d_Md_link_123 : decode c_Md_link 123 = .ok (.irem, 1) := by decide +kernel
theorem d_Md_link_124 : decode c_Md_link 124 = .ok (.ireturn, 1) := by decide +kernel
theorem d_Md_equal_0 : decode c_Md_equal 0 = .ok (.aload_n 0, 1) := by decide +kernel
theorem d_Md_equal_1 : decode c_Md_equal 1 = .ok (.aload_n 0, 1) := by decide +kernel
theorem d_Md_equal_2 : decode c_Md_equal 2 = .ok (.iload_n 1, 1) := by decide +kernel
theorem d_Md_equal_3 : decode c_Md_equal 3 = .ok (.invokevirtual 87, 3) := by decide +kernel
theorem d_Md_equal_6 : decode c_Md_equal 6 = .ok (.iconst 1, 1) := by decide +kernel
theorem d_Md_equal_7 : decode c_Md_equal 7 = .ok (.invokevirtual 69, 3) := by decide +kernel
theorem d_Md_equal_10 : decode c_Md_equal 10 = .ok (.ifCond .eq 12, 3) := by decide +kernel
theorem d_Md_equal_13 : decode c_Md_equal 13 = .ok (.aload_n 0, 1) := by decide +kernel
theorem d_Md_equal_14 : decode c_Md_equal 14 = .ok (.getfield 23, 3) := by decide +kernel
theorem d_Md_equal_17 : decode c_Md_equal 17 = .ok (.iload_n 1, 1) := by decide +kernel
theorem d_Md_equal_18 : decode c_Md_equal 18 = .ok (.iaload, 1) := by decide +kernel
theorem d_Md_equal_19 : decode c_Md_equal 19 = .ok (.goto 4, 3) := by decide +kernel
theorem d_Md_equal_22 : decode c_Md_equal 22 = .ok (.iconst 0, 1) := by decide +kernel
theorem d_Md_equal_23 : decode c_Md_equal 23 = .ok (.ireturn, 1) := by decide +kernel
theorem d_Md_contemporary_0 : decode c_Md_contemporary 0 = .ok (.aload_n 0, 1) := by decide +kernel
theorem d_Md_contemporary_1 : decode c_Md_contemporary 1 = .ok (.aload_n 0, 1) := by decide +kernel
theorem d_Md_contemporary_2 : decode c_Md_contemporary 2 = .ok (.iload_n 1, 1) := by decide +kernel
theorem d_Md_contemporary_3 : decode c_Md_contemporary 3 = .ok (.invokevirtual 87, 3) := by decide +kernel
theorem d_Md_contemporary_6 : decode c_Md_contemporary 6 = .ok (.ifCond .eq 15, 3) := by decide +kernel
theorem d_Md_contemporary_9 : decode c_Md_contemporary 9 = .ok (.aload_n 0, 1) := by decide +kernel
theorem d_Md_contemporary_10 : decode c_Md_contemporary 10 = .ok (.iload_n 2, 1) := by decide +kernel
theorem d_Md_contemporary_11 : decode c_Md_contemporary 11 = .ok (.invokevirtual 87, 3) := by decide +kernel
theorem d_Md_contemporary_14 : decode c_Md_contemporary 14 = .ok (.ifCond .eq 7, 3) := by decide +kernel
theorem d_Md_contemporary_17 : decode c_Md_contemporary 17 = .ok (.iconst 1, 1) := by decide +kernel
theorem d_Md_contemporary_18 : decode c_Md_contemporary 18 = .ok (.goto 4, 3) := by decide +kernel
theorem d_Md_contemporary_21 : decode c_Md_contemporary 21 = .ok (.iconst 0, 1) := by decide +kernel
theorem d_Md_contemporary_22 : decode c_Md_contemporary 22 = .ok (.iconst 1, 1) := by decide +kernel
theorem d_Md_contemporary_23 : decode c_Md_contemporary 23 = .ok (.invokevirtual 69, 3) := by decide +kernel
theorem d_Md_contemporary_26 : decode c_Md_contemporary 26 = .ok (.ifCond .ne 5, 3) := by decide +kernel
theorem d_Md_contemporary_29 : decode c_Md_contemporary 29 = .ok (.iconst 0, 1) := by decide +kernel
theorem d_Md_contemporary_30 : decode c_Md_contemporary 30 = .ok (.ireturn, 1) := by decide +kernel
theorem d_Md_contemporary_31 : decode c_Md_contemporary 31 = .ok (.aload_n 0, 1) := by decide +kernel
theorem d_Md_contemporary_32 : decode c_Md_contemporary 32 = .ok (.getfield 23, 3) := by decide +kernel
theorem d_Md_contemporary_35 : decode c_Md_contemporary 35 = .ok (.iload_n 1, 1) := by decide +kernel
theorem d_Md_contemporary_36 : decode c_Md_contemporary 36 = .ok (.iaload, 1) := by decide +kernel
theorem d_Md_contemporary_37 : decode c_Md_contemporary 37 = .ok (.istore_n 3, 1) := by decide +kernel
theorem d_Md_contemporary_38 : decode c_Md_contemporary 38 = .ok (.aload_n 0, 1) := by decide +kernel
theorem d_Md_contemporary_39 : decode c_Md_contemporary 39 = .ok (.getfield 23, 3) := by decide +kernel
theorem d_Md_contemporary_42 : decode c_Md_contemporary 42 = .ok (.iload_n 2, 1) := by decide +kernel
theorem d_Md_contemporary_43 : decode c_Md_contemporary 43 = .ok (.iaload, 1) := by decide +kernel
theorem d_Md_contemporary_44 : decode c_Md_contemporary 44 = .ok (.istore 4, 2) := by decide +kernel
theorem d_Md_contemporary_46 : decode c_Md_contemporary 46 = .ok (.iload_n 3, 1) := by decide +kernel
theorem d_Md_contemporary_47 : decode c_Md_contemporary 47 = .ok (.iload 4, 2) := by decide +kernel
theorem d_Md_contemporary_49 : decode c_Md_contemporary 49 = .ok (.if_icmp .ne 7, 3) := by decide +kernel
theorem d_Md_contemporary_52 : decode c_Md_contemporary 52 = .ok (.iconst 1, 1) := by decide +kernel
theorem d_Md_contemporary_53 : decode c_Md_contemporary 53 = .ok (.goto 4, 3) := by decide +kernel
theorem d_Md_contemporary_56 : decode c_Md_contemporary 56 = .ok (.iconst 0, 1) := by decide +kernel
theorem d_Md_contemporary_57 : decode c_Md_contemporary 57 = .ok (.istore 5, 2) := by decide +kernel
theorem d_Md_contemporary_59 : decode c_Md_contemporary 59 = .ok (.iconst 0, 1) := by decide +kernel
theorem d_Md_contemporary_60 : decode c_Md_contemporary 60 = .ok (.istore 6, 2) := by decide +kernel
theorem d_Md_contemporary_62 : decode c_Md_contemporary 62 = .ok (.iload 6, 2) := by decide +kernel
theorem d_Md_contemporary_64 : decode c_Md_contemporary 64 = .ok (.aload_n 0, 1) := by decide +kernel
theorem d_Md_contemporary_65 : decode c_Md_contemporary 65 = .ok (.getfield 63, 3) := by decide +kernel
theorem d_Md_contemporary_68 : decode c_Md_contemporary 68 = .ok (.if_icmp .ge 96, 3) := by decide +kernel
theorem d_Md_contemporary_71 : decode c_Md_contemporary 71 = .ok (.aload_n 0, 1) := by decide +kernel
theorem d_Md_contemporary_72 : decode c_Md_contemporary 72 = .ok (.getfield 23, 3) := by decide +kernel
theorem d_Md_contemporary_75 : decode c_Md_contemporary 75 = .ok (.aload_n 0, 1) := by decide +kernel
theorem d_Md_contemporary_76 : decode c_Md_contemporary 76 = .ok (.getfield 7, 3) := by decide +kernel
theorem d_Md_contemporary_79 : decode c_Md_contemporary 79 = .ok (.iload 6, 2) := by decide +kernel
theorem d_Md_contemporary_81 : decode c_Md_contemporary 81 = .ok (.iaload, 1) := by decide +kernel
theorem d_Md_contemporary_82 : decode c_Md_contemporary 82 = .ok (.iaload, 1) := by decide +kernel
theorem d_Md_contemporary_83 : decode c_Md_contemporary 83 = .ok (.istore 7, 2) := by decide +kernel
theorem d_Md_contemporary_85 : decode c_Md_contemporary 85 = .ok (.aload_n 0, 1) := by decide +kernel
theorem d_Md_contemporary_86 : decode c_Md_contemporary 86 = .ok (.getfield 23, 3) := by decide +kernel
theorem d_Md_contemporary_89 : decode c_Md_contemporary 89 = .ok (.aload_n 0, 1) := by decide +kernel
theorem d_Md_contemporary_90 : decode c_Md_contemporary 90 = .ok (.getfield 13, 3) := by decide +kernel
theorem d_Md_contemporary_93 : decode c_Md_contemporary 93 = .ok (.iload 6, 2) := by decide +kernel
theorem d_Md_contemporary_95 : decode c_Md_contemporary 95 = .ok (.iaload, 1) := by decide +kernel
theorem d_Md_contemporary_96 : decode c_Md_contemporary 96 = .ok (.iaload, 1) := by decide +kernel
theorem d_Md_contemporary_97 : decode c_Md_contemporary 97 = .ok (.istore 8, 2) := by decide +kernel
theorem d_Md_contemporary_99 : decode c_Md_contemporary 99 = .ok (.iload 5, 2) := by decide +kernel
theorem d_Md_contemporary_101 : decode c_Md_contemporary 101 = .ok (.ifCond .ne 50, 3) := by decide +kernel
theorem d_Md_contemporary_104 : decode c_Md_contemporary 104 = .ok (.aload_n 0, 1) := by decide +kernel
theorem d_Md_contemporary_105 : decode c_Md_contemporary 105 = .ok (.getfield 19, 3) := by decide +kernel
theorem d_Md_contemporary_108 : decode c_Md_contemporary 108 = .ok (.iload 6, 2) := by decide +kernel
theorem d_Md_contemporary_110 : decode c_Md_contemporary 110 = .ok (.baload, 1) := by decide +kernel
theorem d_Md_contemporary_111 : decode c_Md_contemporary 111 = .ok (.ifCond .ne 44, 3) := by decide +kernel
theorem d_Md_contemporary_114 : decode c_Md_contemporary 114 = .ok (.aload_n 0, 1) := by decide +kernel
theorem d_Md_contemporary_115 : decode c_Md_contemporary 115 = .ok (.getfield 16, 3) := by decide +kernel
theorem d_Md_contemporary_118 : decode c_Md_contemporary 118 = .ok (.iload 6, 2) := by decide +kernel
theorem d_Md_contemporary_120 : decode c_Md_contemporary 120 = .ok (.iaload, 1) := by decide +kernel
theorem d_Md_contemporary_121 : decode c_Md_contemporary 121 = .ok (.iconst 4, 1) := by decide +kernel
theorem d_Md_contemporary_122 : decode c_Md_contemporary 122 = .ok (.if_icmp .ne 33, 3) := by decide +kernel
theorem d_Md_contemporary_125 : decode c_Md_contemporary 125 = .ok (.iload 7, 2) := by decide +kernel
theorem d_Md_contemporary_127 : decode c_Md_contemporary 127 = .ok (.iload_n 3, 1) := by decide +kernel
theorem d_Md_contemporary_128 : decode c_Md_contemporary 128 = .ok (.if_icmp .ne 10, 3) := by decide +kernel
theorem d_Md_contemporary_131 : decode c_Md_contemporary 131 = .ok (.iload 8, 2) := by decide +kernel
theorem d_Md_contemporary_133 : decode c_Md_contemporary 133 = .ok (.iload 4, 2) := by decide +kernel
theorem d_Md_contemporary_135 : decode c_Md_contemporary 135 = .ok (.if_icmp .eq 16, 3) := by decide +kernel
theorem d_Md_contemporary_138 : decode c_Md_contemporary 138 = .ok (.iload 7, 2) := by decide +kernel
theorem d_Md_contemporary_140 : decode c_Md_contemporary 140 = .ok (.iload 4, 2) := by decide +kernel
theorem d_Md_contemporary_142 : decode c_Md_contemporary 142 = .ok (.if_icmp .ne 13, 3) := by decide +kernel
theorem d_Md_contemporary_145 : decode c_Md_contemporary 145 = .ok (.iload 8, 2) := by decide +kernel
theorem d_Md_contemporary_147 : decode c_Md_contemporary 147 = .ok (.iload_n 3, 1) := by decide +kernel
theorem d_Md_contemporary_148 : decode c_Md_contemporary 148 = .ok (.if_icmp .ne 7, 3) := by decide +kernel
theorem d_Md_contemporary_151 : decode c_Md_contemporary 151 = .ok (.iconst 1, 1) := by decide +kernel
theorem d_Md_contemporary_152 : decode c_Md_contemporary 152 = .ok (.goto 4, 3) := by decide +kernel
theorem d_Md_contemporary_155 : decode c_Md_contemporary 155 = .ok (.iconst 0, 1) := by decide +kernel
theorem d_Md_contemporary_156 : decode c_Md_contemporary 156 = .ok (.istore 5, 2) := by decide +kernel
theorem d_Md_contemporary_158 : decode c_Md_contemporary 158 = .ok (.iinc 6 1, 3) := by decide +kernel
theorem d_Md_contemporary_161 : decode c_Md_contemporary 161 = .ok (.goto (-99), 3) := by decide +kernel
theorem d_Md_contemporary_164 : decode c_Md_contemporary 164 = .ok (.iload 5, 2) := by decide +kernel
theorem d_Md_contemporary_166 : decode c_Md_contemporary 166 = .ok (.ireturn, 1) := by decide +kernel
theorem d_Md_longest_0 : decode c_Md_longest 0 = .ok (.aload_n 0, 1) := by decide +kernel
theorem d_Md_longest_1 : decode c_Md_longest 1 = .ok (.aload_n 0, 1) := by decide +kernel
theorem d_Md_longest_2 : decode c_Md_longest 2 = .ok (.iload_n 1, 1) := by decide +kernel
theorem d_Md_longest_3 : decode c_Md_longest 3 = .ok (.invokevirtual 87, 3) := by decide +kernel
theorem d_Md_longest_6 : decode c_Md_longest 6 = .ok (.iconst 1, 1) := by decide +kernel
theorem d_Md_longest_7 : decode c_Md_longest 7 = .ok (.invokevirtual 69, 3) := by decide +kernel
theorem d_Md_longest_10 : decode c_Md_longest 10 = .ok (.ifCond .ne 5, 3) := by decide +kernel
theorem d_Md_longest_13 : decode c_Md_longest 13 = .ok (.iconst 0, 1) := by decide +kernel
theorem d_Md_longest_14 : decode c_Md_longest 14 = .ok (.ireturn, 1) := by decide +kernel
theorem d_Md_longest_15 : decode c_Md_longest 15 = .ok (.iconst 0, 1) := by decide +kernel
theorem d_Md_longest_16 : decode c_Md_longest 16 = .ok (.istore_n 2, 1) := by decide +kernel
theorem d_Md_longest_17 : decode c_Md_longest 17 = .ok (.iload_n 2, 1) := by decide +kernel
theorem d_Md_longest_18 : decode c_Md_longest 18 = .ok (.bipush 48, 2) := by decide +kernel
theorem d_Md_longest_20 : decode c_Md_longest 20 = .ok (.if_icmp .ge 16, 3) := by decide +kernel
theorem d_Md_longest_23 : decode c_Md_longest 23 = .ok (.aload_n 0, 1) := by decide +kernel
theorem d_Md_longest_24 : decode c_Md_longest 24 = .ok (.getfield 32, 3) := by decide +kernel
theorem d_Md_longest_27 : decode c_Md_longest 27 = .ok (.iload_n 2, 1) := by decide +kernel
theorem d_Md_longest_28 : decode c_Md_longest 28 = .ok (.iconst 0, 1) := by decide +kernel
theorem d_Md_longest_29 : decode c_Md_longest 29 = .ok (.iastore, 1) := by decide +kernel
theorem d_Md_longest_30 : decode c_Md_longest 30 = .ok (.iinc 2 1, 3) := by decide +kernel
theorem d_Md_longest_33 : decode c_Md_longest 33 = .ok (.goto (-16), 3) := by decide +kernel
theorem d_Md_longest_36 : decode c_Md_longest 36 = .ok (.iconst 1, 1) := by decide +kernel
theorem d_Md_longest_37 : decode c_Md_longest 37 = .ok (.istore_n 2, 1) := by decide +kernel
theorem d_Md_longest_38 : decode c_Md_longest 38 = .ok (.iload_n 2, 1) := by decide +kernel
theorem d_Md_longest_39 : decode c_Md_longest 39 = .ok (.ifCond .eq 77, 3) := by decide +kernel
theorem d_Md_longest_42 : decode c_Md_longest 42 = .ok (.iconst 0, 1) := by decide +kernel
theorem d_Md_longest_43 : decode c_Md_longest 43 = .ok (.istore_n 2, 1) := by decide +kernel
theorem d_Md_longest_44 : decode c_Md_longest 44 = .ok (.iconst 0, 1) := by decide +kernel
theorem d_Md_longest_45 : decode c_Md_longest 45 = .ok (.istore_n 3, 1) := by decide +kernel
theorem d_Md_longest_46 : decode c_Md_longest 46 = .ok (.iload_n 3, 1) := by decide +kernel
theorem d_Md_longest_47 : decode c_Md_longest 47 = .ok (.sipush 2304, 3) := by decide +kernel
theorem d_Md_longest_50 : decode c_Md_longest 50 = .ok (.if_icmp .ge 63, 3) := by decide +kernel
theorem d_Md_longest_53 : decode c_Md_longest 53 = .ok (.aload_n 0, 1) := by decide +kernel
theorem d_Md_longest_54 : decode c_Md_longest 54 = .ok (.getfield 26, 3) := by decide +kernel
theorem d_Md_longest_57 : decode c_Md_longest 57 = .ok (.iload_n 3, 1) := by decide +kernel
theorem d_Md_longest_58 : decode c_Md_longest 58 = .ok (.baload, 1) := by decide +kernel
theorem d_Md_longest_59 : decode c_Md_longest 59 = .ok (.ifCond .eq 48, 3) := by decide +kernel
theorem d_Md_longest_62 : decode c_Md_longest 62 = .ok (.aload_n 0, 1) := by decide +kernel
theorem d_Md_longest_63 : decode c_Md_longest 63 = .ok (.getfield 32, 3) := by decide +kernel
theorem d_Md_longest_66 : decode c_Md_longest 66 = .ok (.iload_n 3, 1) := by decide +kernel
theorem d_Md_longest_67 : decode c_Md_longest 67 = .ok (.bipush 48, 2) := by decide +kernel
theorem d_Md_longest_69 : decode c_Md_longest 69 = .ok (.irem, 1) := by decide +kernel
theorem d_Md_longest_70 : decode c_Md_longest 70 = .ok (.iaload, 1) := by decide +kernel
theorem d_Md_longest_71 : decode c_Md_longest 71 = .ok (.aload_n 0, 1) := by decide +kernel
theorem d_Md_longest_72 : decode c_Md_longest 72 = .ok (.getfield 32, 3) := by decide +kernel
theorem d_Md_longest_75 : decode c_Md_longest 75 = .ok (.iload_n 3, 1) := by decide +kernel
theorem d_Md_longest_76 : decode c_Md_longest 76 = .ok (.bipush 48, 2) := by decide +kernel
theorem d_Md_longest_78 : decode c_Md_longest 78 = .ok (.idiv, 1) := by decide +kernel
theorem d_Md_longest_79 : decode c_Md_longest 79 = .ok (.iaload, 1) := by decide +kernel
theorem d_Md_longest_80 : decode c_Md_longest 80 = .ok (.iconst 1, 1) := by decide +kernel
theorem d_Md_longest_81 : decode c_Md_longest 81 = .ok (.iadd, 1) := by decide +kernel
theorem d_Md_longest_82 : decode c_Md_longest 82 = .ok (.if_icmp .ge 25, 3) := by decide +kernel
theorem d_Md_longest_85 : decode c_Md_longest 85 = .ok (.aload_n 0, 1) := by decide +kernel
theorem d_Md_longest_86 : decode c_Md_longest 86 = .ok (.getfield 32, 3) := by decide +kernel
theorem d_Md_longest_89 : decode c_Md_longest 89 = .ok (.iload_n 3, 1) := by decide +kernel
theorem d_Md_longest_90 : decode c_Md_longest 90 = .ok (.bipush 48, 2) := by decide +kernel
theorem d_Md_longest_92 : decode c_Md_longest 92 = .ok (.irem, 1) := by decide +kernel
theorem d_Md_longest_93 : decode c_Md_longest 93 = .ok (.aload_n 0, 1) := by decide +kernel
theorem d_Md_longest_94 : decode c_Md_longest 94 = .ok (.getfield 32, 3) := by decide +kernel
theorem d_Md_longest_97 : decode c_Md_longest 97 = .ok (.iload_n 3, 1) := by decide +kernel
theorem d_Md_longest_98 : decode c_Md_longest 98 = .ok (.bipush 48, 2) := by decide +kernel
theorem d_Md_longest_100 : decode c_Md_longest 100 = .ok (.idiv, 1) := by decide +kernel
theorem d_Md_longest_101 : decode c_Md_longest 101 = .ok (.iaload, 1) := by decide +kernel
theorem d_Md_longest_102 : decode c_Md_longest 102 = .ok (.iconst 1, 1) := by decide +kernel
theorem d_Md_longest_103 : decode c_Md_longest 103 = .ok (.iadd, 1) := by decide +kernel
theorem d_Md_longest_104 : decode c_Md_longest 104 = .ok (.iastore, 1) := by decide +kernel
theorem d_Md_longest_105 : decode c_Md_longest 105 = .ok (.iconst 1, 1) := by decide +kernel
theorem d_Md_longest_106 : decode c_Md_longest 106 = .ok (.istore_n 2, 1) := by decide +kernel
theorem d_Md_longest_107 : decode c_Md_longest 107 = .ok (.iinc 3 1, 3) := by decide +kernel
theorem d_Md_longest_110 : decode c_Md_longest 110 = .ok (.goto (-64), 3) := by decide +kernel
theorem d_Md_longest_113 : decode c_Md_longest 113 = .ok (.goto (-75), 3) := by decide +kernel
theorem d_Md_longest_116 : decode c_Md_longest 116 = .ok (.aload_n 0, 1) := by decide +kernel
theorem d_Md_longest_117 : decode c_Md_longest 117 = .ok (.getfield 32, 3) := by decide +kernel
theorem d_Md_longest_120 : decode c_Md_longest 120 = .ok (.aload_n 0, 1) := by decide +kernel
theorem d_Md_longest_121 : decode c_Md_longest 121 = .ok (.getfield 23, 3) := by decide +kernel
theorem d_Md_longest_124 : decode c_Md_longest 124 = .ok (.iload_n 1, 1) := by decide +kernel
theorem d_Md_longest_125 : decode c_Md_longest 125 = .ok (.iaload, 1) := by decide +kernel
theorem d_Md_longest_126 : decode c_Md_longest 126 = .ok (.iaload, 1) := by decide +kernel
theorem d_Md_longest_127 : decode c_Md_longest 127 = .ok (.ireturn, 1) := by decide +kernel
theorem d_Md_group_0 : decode c_Md_group 0 = .ok (.aload_n 0, 1) := by decide +kernel
theorem d_Md_group_1 : decode c_Md_group 1 = .ok (.aload_n 0, 1) := by decide +kernel
theorem d_Md_group_2 : decode c_Md_group 2 = .ok (.getfield 103, 3) := by decide +kernel
theorem d_Md_group_5 : decode c_Md_group 5 = .ok (.bipush 12, 2) := by decide +kernel
theorem d_Md_group_7 : decode c_Md_group 7 = .ok (.if_icmp .ge 7, 3) := by decide +kernel
theorem d_Md_group_10 : decode c_Md_group 10 = .ok (.iconst 1, 1) := by decide +kernel
theorem d_Md_group_11 : decode c_Md_group 11 = .ok (.goto 4, 3) := by decide +kernel
theorem d_Md_group_14 : decode c_Md_group 14 = .ok (.iconst 0, 1) := by decide +kernel
theorem d_Md_group_15 : decode c_Md_group 15 = .ok (.iconst 1, 1) := by decide +kernel
theorem d_Md_group_16 : decode c_Md_group 16 = .ok (.invokevirtual 69, 3) := by decide +kernel
theorem d_Md_group_19 : decode c_Md_group 19 = .ok (.ifCond .ne 5, 3) := by decide +kernel
theorem d_Md_group_22 : decode c_Md_group 22 = .ok (.iconst 0, 1) := by decide +kernel
theorem d_Md_group_23 : decode c_Md_group 23 = .ok (.ireturn, 1) := by decide +kernel
theorem d_Md_group_24 : decode c_Md_group 24 = .ok (.aload_n 0, 1) := by decide +kernel
theorem d_Md_group_25 : decode c_Md_group 25 = .ok (.dup, 1) := by decide +kernel
theorem d_Md_group_26 : decode c_Md_group 26 = .ok (.getfield 103, 3) := by decide +kernel
theorem d_Md_group_29 : decode c_Md_group 29 = .ok (.iconst 1, 1) := by decide +kernel
theorem d_Md_group_30 : decode c_Md_group 30 = .ok (.iadd, 1) := by decide +kernel
theorem d_Md_group_31 : decode c_Md_group 31 = .ok (.putfield 103, 3) := by decide +kernel
theorem d_Md_group_34 : decode c_Md_group 34 = .ok (.aload_n 0, 1) := by decide +kernel
theorem d_Md_group_35 : decode c_Md_group 35 = .ok (.getfield 103, 3) := by decide +kernel
theorem d_Md_group_38 : decode c_Md_group 38 = .ok (.iconst 1, 1) := by decide +kernel
theorem d_Md_group_39 : decode c_Md_group 39 = .ok (.isub, 1) := by decide +kernel
theorem d_Md_group_40 : decode c_Md_group 40 = .ok (.ireturn, 1) := by decide +kernel
theorem d_Md_renewGroups_0 : decode c_Md_renewGroups 0 = .ok (.iconst 0, 1) := by decide +kernel
theorem d_Md_renewGroups_1 : decode c_Md_renewGroups 1 = .ok (.istore_n 1, 1) := by decide +kernel
theorem d_Md_renewGroups_2 : decode c_Md_renewGroups 2 = .ok (.iload_n 1, 1) := by decide +kernel
theorem d_Md_renewGroups_3 : decode c_Md_renewGroups 3 = .ok (.sipush 144, 3) := by decide +kernel
theorem d_Md_renewGroups_6 : decode c_Md_renewGroups 6 = .ok (.if_icmp .ge 16, 3) := by decide +kernel
theorem d_Md_renewGroups_9 : decode c_Md_renewGroups 9 = .ok (.aload_n 0, 1) := by decide +kernel
theorem d_Md_renewGroups_10 : decode c_Md_renewGroups 10 = .ok (.getfield 41, 3) := by decide +kernel
theorem d_Md_renewGroups_13 : decode c_Md_renewGroups 13 = .ok (.iload_n 1, 1) := by decide +kernel
theorem d_Md_renewGroups_14 : decode c_Md_renewGroups 14 = .ok (.iconst 0, 1) := by decide +kernel
theorem d_Md_renewGroups_15 : decode c_Md_renewGroups 15 = .ok (.bastore, 1) := by decide +kernel
theorem d_Md_renewGroups_16 : decode c_Md_renewGroups 16 = .ok (.iinc 1 1, 3) := by decide +kernel
theorem d_Md_renewGroups_19 : decode c_Md_renewGroups 19 = .ok (.goto (-17), 3) := by decide +kernel
theorem d_Md_renewGroups_22 : decode c_Md_renewGroups 22 = .ok (.iconst 0, 1) := by decide +kernel
theorem d_Md_renewGroups_23 : decode c_Md_renewGroups 23 = .ok (.istore_n 1, 1) := by decide +kernel
theorem d_Md_renewGroups_24 : decode c_Md_renewGroups 24 = .ok (.iload_n 1, 1) := by decide +kernel
theorem d_Md_renewGroups_25 : decode c_Md_renewGroups 25 = .ok (.aload_n 0, 1) := by decide +kernel
theorem d_Md_renewGroups_26 : decode c_Md_renewGroups 26 = .ok (.getfield 60, 3) := by decide +kernel
theorem d_Md_renewGroups_29 : decode c_Md_renewGroups 29 = .ok (.if_icmp .ge 94, 3) := by decide +kernel
theorem d_Md_renewGroups_32 : decode c_Md_renewGroups 32 = .ok (.iconst 0, 1) := by decide +kernel
theorem d_Md_renewGroups_33 : decode c_Md_renewGroups 33 = .ok (.istore_n 2, 1) := by decide +kernel
theorem d_Md_renewGroups_34 : decode c_Md_renewGroups 34 = .ok (.iload_n 2, 1) := by decide +kernel
theorem d_Md_renewGroups_35 : decode c_Md_renewGroups 35 = .ok (.aload_n 0, 1) := by decide +kernel
theorem d_Md_renewGroups_36 : decode c_Md_renewGroups 36 = .ok (.getfield 60, 3) := by decide +kernel
theorem d_Md_renewGroups_39 : decode c_Md_renewGroups 39 = .ok (.if_icmp .ge 78, 3) := by decide +kernel
theorem d_Md_renewGroups_42 : decode c_Md_renewGroups 42 = .ok (.aload_n 0, 1) := by decide +kernel
theorem d_Md_renewGroups_43 : decode c_Md_renewGroups 43 = .ok (.getfield 38, 3) := by decide +kernel
theorem d_Md_renewGroups_46 : decode c_Md_renewGroups 46 = .ok (.iload_n 1, 1) := by decide +kernel
theorem d_Md_renewGroups_47 : decode c_Md_renewGroups 47 = .ok (.iaload, 1) := by decide +kernel
theorem d_Md_renewGroups_48 : decode c_Md_renewGroups 48 = .ok (.istore_n 3, 1) := by decide +kernel
theorem d_Md_renewGroups_49 : decode c_Md_renewGroups 49 = .ok (.aload_n 0, 1) := by decide +kernel
theorem d_Md_renewGroups_50 : decode c_Md_renewGroups 50 = .ok (.getfield 38, 3) := by decide +kernel
theorem d_Md_renewGroups_53 : decode c_Md_renewGroups 53 = .ok (.iload_n 2, 1) := by decide +kernel
theorem d_Md_renewGroups_54 : decode c_Md_renewGroups 54 = .ok (.iaload, 1) := by decide +kernel
theorem d_Md_renewGroups_55 : decode c_Md_renewGroups 55 = .ok (.istore 4, 2) := by decide +kernel
theorem d_Md_renewGroups_57 : decode c_Md_renewGroups 57 = .ok (.iload_n 3, 1) := by decide +kernel
theorem d_Md_renewGroups_58 : decode c_Md_renewGroups 58 = .ok (.iconst (-1), 1) := by decide +kernel
theorem d_Md_renewGroups_59 : decode c_Md_renewGroups 59 = .ok (.if_icmp .eq 52, 3) := by decide +kernel
theorem d_Md_renewGroups_62 : decode c_Md_renewGroups 62 = .ok (.iload 4, 2) := by decide +kernel
theorem d_Md_renewGroups_64 : decode c_Md_renewGroups 64 = .ok (.iconst (-1), 1) := by decide +kernel
theorem d_Md_renewGroups_65 : decode c_Md_renewGroups 65 = .ok (.if_icmp .eq 46, 3) := by decide +kernel
theorem d_Md_renewGroups_68 : decode c_Md_renewGroups 68 = .ok (.iload_n 3, 1) := by decide +kernel
theorem d_Md_renewGroups_69 : decode c_Md_renewGroups 69 = .ok (.iload 4, 2) := by decide +kernel
theorem d_Md_renewGroups_71 : decode c_Md_renewGroups 71 = .ok (.if_icmp .eq 40, 3) := by decide +kernel
theorem d_Md_renewGroups_74 : decode c_Md_renewGroups 74 = .ok (.aload_n 0, 1) := by decide +kernel
theorem d_Md_renewGroups_75 : decode c_Md_renewGroups 75 = .ok (.getfield 29, 3) := by decide +kernel
theorem d_Md_renewGroups_78 : decode c_Md_renewGroups 78 = .ok (.bipush 48, 2) := by decide +kernel
theorem d_Md_renewGroups_80 : decode c_Md_renewGroups 80 = .ok (.aload_n 0, 1) := by decide +kernel
theorem d_Md_renewGroups_81 : decode c_Md_renewGroups 81 = .ok (.getfield 23, 3) := by decide +kernel
theorem d_Md_renewGroups_84 : decode c_Md_renewGroups 84 = .ok (.iload_n 1, 1) := by decide +kernel
theorem d_Md_renewGroups_85 : decode c_Md_renewGroups 85 = .ok (.iaload, 1) := by decide +kernel
theorem d_Md_renewGroups_86 : decode c_Md_renewGroups 86 = .ok (.imul, 1) := by decide +kernel
theorem d_Md_renewGroups_87 : decode c_Md_renewGroups 87 = .ok (.aload_n 0, 1) := by decide +kernel
theorem d_Md_renewGroups_88 : decode c_Md_renewGroups 88 = .ok (.getfield 23, 3) := by decide +kernel
theorem d_Md_renewGroups_91 : decode c_Md_renewGroups 91 = .ok (.iload_n 2, 1) := by decide +kernel
theorem d_Md_renewGroups_92 : decode c_Md_renewGroups 92 = .ok (.iaload, 1) := by decide +kernel
theorem d_Md_renewGroups_93 : decode c_Md_renewGroups 93 = .ok (.iadd, 1) := by decide +kernel
theorem d_Md_renewGroups_94 : decode c_Md_renewGroups 94 = .ok (.baload, 1) := by decide +kernel
theorem d_Md_renewGroups_95 : decode c_Md_renewGroups 95 = .ok (.ifCond .eq 16, 3) := by decide +kernel
theorem d_Md_renewGroups_98 : decode c_Md_renewGroups 98 = .ok (.aload_n 0, 1) := by decide +kernel
theorem d_Md_renewGroups_99 : decode c_Md_renewGroups 99 = .ok (.getfield 41, 3) := by decide +kernel
theorem d_Md_renewGroups_102 : decode c_Md_renewGroups 102 = .ok (.bipush 12, 2) := by decide +kernel
theorem d_Md_renewGroups_104 : decode c_Md_renewGroups 104 = .ok (.iload_n 3, 1) := by decide +kernel
theorem d_Md_renewGroups_105 : decode c_Md_renewGroups 105 = .ok (.imul, 1) := by decide +kernel
theorem d_Md_renewGroups_106 : decode c_Md_renewGroups 106 = .ok (.iload 4, 2) := by decide +kernel
theorem d_Md_renewGroups_108 : decode c_Md_renewGroups 108 = .ok (.iadd, 1) := by decide +kernel
theorem d_Md_renewGroups_109 : decode c_Md_renewGroups 109 = .ok (.iconst 1, 1) := by decide +kernel
theorem d_Md_renewGroups_110 : decode c_Md_renewGroups 110 = .ok (.bastore, 1) := by decide +kernel
theorem d_Md_renewGroups_111 : decode c_Md_renewGroups 111 = .ok (.iinc 2 1, 3) := by decide +kernel
theorem d_Md_renewGroups_114 : decode c_Md_renewGroups 114 = .ok (.goto (-80), 3) := by decide +kernel
theorem d_Md_renewGroups_117 : decode c_Md_renewGroups 117 = .ok (.iinc 1 1, 3) := by decide +kernel
theorem d_Md_renewGroups_120 : decode c_Md_renewGroups 120 = .ok (.goto (-96), 3) := by decide +kernel
theorem d_Md_renewGroups_123 : decode c_Md_renewGroups 123 = .ok (.return_, 1) := by decide +kernel
theorem d_Md_ringOf_0 : decode c_Md_ringOf 0 = .ok (.iconst 0, 1) := by decide +kernel
theorem d_Md_ringOf_1 : decode c_Md_ringOf 1 = .ok (.istore_n 2, 1) := by decide +kernel
theorem d_Md_ringOf_2 : decode c_Md_ringOf 2 = .ok (.iload_n 2, 1) := by decide +kernel
theorem d_Md_ringOf_3 : decode c_Md_ringOf 3 = .ok (.bipush 12, 2) := by decide +kernel
theorem d_Md_ringOf_5 : decode c_Md_ringOf 5 = .ok (.if_icmp .ge 26, 3) := by decide +kernel
theorem d_Md_ringOf_8 : decode c_Md_ringOf 8 = .ok (.aload_n 0, 1) := by decide +kernel
theorem d_Md_ringOf_9 : decode c_Md_ringOf 9 = .ok (.getfield 32, 3) := by decide +kernel
theorem d_Md_ringOf_12 : decode c_Md_ringOf 12 = .ok (.iload_n 2, 1) := by decide +kernel
theorem d_Md_ringOf_13 : decode c_Md_ringOf 13 = .ok (.iload_n 2, 1) := by decide +kernel
theorem d_Md_ringOf_14 : decode c_Md_ringOf 14 = .ok (.iload_n 1, 1) := by decide +kernel
theorem d_Md_ringOf_15 : decode c_Md_ringOf 15 = .ok (.if_icmp .ne 7, 3) := by decide +kernel
theorem d_Md_ringOf_18 : decode c_Md_ringOf 18 = .ok (.iconst 0, 1) := by decide +kernel
theorem d_Md_ringOf_19 : decode c_Md_ringOf 19 = .ok (.goto 5, 3) := by decide +kernel
theorem d_Md_ringOf_22 : decode c_Md_ringOf 22 = .ok (.bipush 99, 2) := by decide +kernel
theorem d_Md_ringOf_24 : decode c_Md_ringOf 24 = .ok (.iastore, 1) := by decide +kernel
theorem d_Md_ringOf_25 : decode c_Md_ringOf 25 = .ok (.iinc 2 1, 3) := by decide +kernel
theorem d_Md_ringOf_28 : decode c_Md_ringOf 28 = .ok (.goto (-26), 3) := by decide +kernel
theorem d_Md_ringOf_31 : decode c_Md_ringOf 31 = .ok (.iconst 1, 1) := by decide +kernel
theorem d_Md_ringOf_32 : decode c_Md_ringOf 32 = .ok (.istore_n 2, 1) := by decide +kernel
theorem d_Md_ringOf_33 : decode c_Md_ringOf 33 = .ok (.iload_n 2, 1) := by decide +kernel
theorem d_Md_ringOf_34 : decode c_Md_ringOf 34 = .ok (.ifCond .eq 77, 3) := by decide +kernel
theorem d_Md_ringOf_37 : decode c_Md_ringOf 37 = .ok (.iconst 0, 1) := by decide +kernel
theorem d_Md_ringOf_38 : decode c_Md_ringOf 38 = .ok (.istore_n 2, 1) := by decide +kernel
theorem d_Md_ringOf_39 : decode c_Md_ringOf 39 = .ok (.iconst 0, 1) := by decide +kernel
theorem d_Md_ringOf_40 : decode c_Md_ringOf 40 = .ok (.istore_n 3, 1) := by decide +kernel
theorem d_Md_ringOf_41 : decode c_Md_ringOf 41 = .ok (.iload_n 3, 1) := by decide +kernel
theorem d_Md_ringOf_42 : decode c_Md_ringOf 42 = .ok (.sipush 144, 3) := by decide +kernel
theorem d_Md_ringOf_45 : decode c_Md_ringOf 45 = .ok (.if_icmp .ge 63, 3) := by decide +kernel
theorem d_Md_ringOf_48 : decode c_Md_ringOf 48 = .ok (.aload_n 0, 1) := by decide +kernel
theorem d_Md_ringOf_49 : decode c_Md_ringOf 49 = .ok (.getfield 41, 3) := by decide +kernel
theorem d_Md_ringOf_52 : decode c_Md_ringOf 52 = .ok (.iload_n 3, 1) := by decide +kernel
theorem d_Md_ringOf_53 : decode c_Md_ringOf 53 = .ok (.baload, 1) := by decide +kernel
theorem d_Md_ringOf_54 : decode c_Md_ringOf 54 = .ok (.ifCond .eq 48, 3) := by decide +kernel
theorem d_Md_ringOf_57 : decode c_Md_ringOf 57 = .ok (.aload_n 0, 1) := by decide +kernel
theorem d_Md_ringOf_58 : decode c_Md_ringOf 58 = .ok (.getfield 32, 3) := by decide +kernel
theorem d_Md_ringOf_61 : decode c_Md_ringOf 61 = .ok (.iload_n 3, 1) := by decide +kernel
theorem d_Md_ringOf_62 : decode c_Md_ringOf 62 = .ok (.bipush 12, 2) := by decide +kernel
theorem d_Md_ringOf_64 : decode c_Md_ringOf 64 = .ok (.irem, 1) := by decide +kernel
theorem d_Md_ringOf_65 : decode c_Md_ringOf 65 = .ok (.iaload, 1) := by decide +kernel
theorem d_Md_ringOf_66 : decode c_Md_ringOf 66 = .ok (.iconst 1, 1) := by decide +kernel
theorem d_Md_ringOf_67 : decode c_Md_ringOf 67 = .ok (.iadd, 1) := by decide +kernel
theorem d_Md_ringOf_68 : decode c_Md_ringOf 68 = .ok (.aload_n 0, 1) := by decide +kernel
theorem d_Md_ringOf_69 : decode c_Md_ringOf 69 = .ok (.getfield 32, 3) := by decide +kernel
theorem d_Md_ringOf_72 : decode c_Md_ringOf 72 = .ok (.iload_n 3, 1) := by decide +kernel
theorem d_Md_ringOf_73 : decode c_Md_ringOf 73 = .ok (.bipush 12, 2) := by decide +kernel
theorem d_Md_ringOf_75 : decode c_Md_ringOf 75 = .ok (.idiv, 1) := by decide +kernel
theorem d_Md_ringOf_76 : decode c_Md_ringOf 76 = .ok (.iaload, 1) := by decide +kernel
theorem d_Md_ringOf_77 : decode c_Md_ringOf 77 = .ok (.if_icmp .ge 25, 3) := by decide +kernel
theorem d_Md_ringOf_80 : decode c_Md_ringOf 80 = .ok (.aload_n 0, 1) := by decide +kernel
theorem d_Md_ringOf_81 : decode c_Md_ringOf 81 = .ok (.getfield 32, 3) := by decide +kernel
theorem d_Md_ringOf_84 : decode c_Md_ringOf 84 = .ok (.iload_n 3, 1) := by decide +kernel
theorem d_Md_ringOf_85 : decode c_Md_ringOf 85 = .ok (.bipush 12, 2) := by decide +kernel
theorem d_Md_ringOf_87 : decode c_Md_ringOf 87 = .ok (.idiv, 1) := by decide +kernel
theorem d_Md_ringOf_88 : decode c_Md_ringOf 88 = .ok (.aload_n 0, 1) := by decide +kernel
theorem d_Md_ringOf_89 : decode c_Md_ringOf 89 = .ok (.getfield 32, 3) := by decide +kernel
theorem d_Md_ringOf_92 : decode c_Md_ringOf 92 = .ok (.iload_n 3, 1) := by decide +kernel
theorem d_Md_ringOf_93 : decode c_Md_ringOf 93 = .ok (.bipush 12, 2) := by decide +kernel
theorem d_Md_ringOf_95 : decode c_Md_ringOf 95 = .ok (.irem, 1) := by decide +kernel
theorem d_Md_ringOf_96 : decode c_Md_ringOf 96 = .ok (.iaload, 1) := by decide +kernel
theorem d_Md_ringOf_97 : decode c_Md_ringOf 97 = .ok (.iconst 1, 1) := by decide +kernel
theorem d_Md_ringOf_98 : decode c_Md_ringOf 98 = .ok (.iadd, 1) := by decide +kernel
theorem d_Md_ringOf_99 : decode c_Md_ringOf 99 = .ok (.iastore, 1) := by decide +kernel
theorem d_Md_ringOf_100 : decode c_Md_ringOf 100 = .ok (.iconst 1, 1) := by decide +kernel
theorem d_Md_ringOf_101 : decode c_Md_ringOf 101 = .ok (.istore_n 2, 1) := by decide +kernel
theorem d_Md_ringOf_102 : decode c_Md_ringOf 102 = .ok (.iinc 3 1, 3) := by decide +kernel
theorem d_Md_ringOf_105 : decode c_Md_ringOf 105 = .ok (.goto (-64), 3) := by decide +kernel
theorem d_Md_ringOf_108 : decode c_Md_ringOf 108 = .ok (.goto (-75), 3) := by decide +kernel
theorem d_Md_ringOf_111 : decode c_Md_ringOf 111 = .ok (.bipush 99, 2) := by decide +kernel
theorem d_Md_ringOf_113 : decode c_Md_ringOf 113 = .ok (.istore_n 3, 1) := by decide +kernel
theorem d_Md_ringOf_114 : decode c_Md_ringOf 114 = .ok (.iconst 0, 1) := by decide +kernel
theorem d_Md_ringOf_115 : decode c_Md_ringOf 115 = .ok (.istore 4, 2) := by decide +kernel
theorem d_Md_ringOf_117 : decode c_Md_ringOf 117 = .ok (.iload 4, 2) := by decide +kernel
theorem d_Md_ringOf_119 : decode c_Md_ringOf 119 = .ok (.bipush 12, 2) := by decide +kernel
theorem d_Md_ringOf_121 : decode c_Md_ringOf 121 = .ok (.if_icmp .ge 47, 3) := by decide +kernel
theorem d_Md_ringOf_124 : decode c_Md_ringOf 124 = .ok (.aload_n 0, 1) := by decide +kernel
theorem d_Md_ringOf_125 : decode c_Md_ringOf 125 = .ok (.getfield 41, 3) := by decide +kernel
theorem d_Md_ringOf_128 : decode c_Md_ringOf 128 = .ok (.bipush 12, 2) := by decide +kernel
theorem d_Md_ringOf_130 : decode c_Md_ringOf 130 = .ok (.iload_n 1, 1) := by decide +kernel
theorem d_Md_ringOf_131 : decode c_Md_ringOf 131 = .ok (.imul, 1) := by decide +kernel
theorem d_Md_ringOf_132 : decode c_Md_ringOf 132 = .ok (.iload 4, 2) := by decide +kernel
theorem d_Md_ringOf_134 : decode c_Md_ringOf 134 = .ok (.iadd, 1) := by decide +kernel
theorem d_Md_ringOf_135 : decode c_Md_ringOf 135 = .ok (.baload, 1) := by decide +kernel
theorem d_Md_ringOf_136 : decode c_Md_ringOf 136 = .ok (.ifCond .eq 24, 3) := by decide +kernel
theorem d_Md_ringOf_139 : decode c_Md_ringOf 139 = .ok (.aload_n 0, 1) := by decide +kernel
theorem d_Md_ringOf_140 : decode c_Md_ringOf 140 = .ok (.getfield 32, 3) := by decide +kernel
theorem d_Md_ringOf_143 : decode c_Md_ringOf 143 = .ok (.iload 4, 2) := by decide +kernel
theorem d_Md_ringOf_145 : decode c_Md_ringOf 145 = .ok (.iaload, 1) := by decide +kernel
theorem d_Md_ringOf_146 : decode c_Md_ringOf 146 = .ok (.iload_n 3, 1) := by decide +kernel
theorem d_Md_ringOf_147 : decode c_Md_ringOf 147 = .ok (.if_icmp .ge 13, 3) := by decide +kernel
theorem d_Md_ringOf_150 : decode c_Md_ringOf 150 = .ok (.aload_n 0, 1) := by decide +kernel
theorem d_Md_ringOf_151 : decode c_Md_ringOf 151 = .ok (.getfield 32, 3) := by decide +kernel
theorem d_Md_ringOf_154 : decode c_Md_ringOf 154 = .ok (.iload 4, 2) := by decide +kernel
theorem d_Md_ringOf_156 : decode c_Md_ringOf 156 = .ok (.iaload, 1) := by decide +kernel
theorem d_Md_ringOf_157 : decode c_Md_ringOf 157 = .ok (.goto 4, 3) := by decide +kernel
theorem d_Md_ringOf_160 : decode c_Md_ringOf 160 = .ok (.iload_n 3, 1) := by decide +kernel
theorem d_Md_ringOf_161 : decode c_Md_ringOf 161 = .ok (.istore_n 3, 1) := by decide +kernel
theorem d_Md_ringOf_162 : decode c_Md_ringOf 162 = .ok (.iinc 4 1, 3) := by decide +kernel
theorem d_Md_ringOf_165 : decode c_Md_ringOf 165 = .ok (.goto (-48), 3) := by decide +kernel
theorem d_Md_ringOf_168 : decode c_Md_ringOf 168 = .ok (.iload_n 3, 1) := by decide +kernel
theorem d_Md_ringOf_169 : decode c_Md_ringOf 169 = .ok (.bipush 99, 2) := by decide +kernel
theorem d_Md_ringOf_171 : decode c_Md_ringOf 171 = .ok (.if_icmp .ne 5, 3) := by decide +kernel
theorem d_Md_ringOf_174 : decode c_Md_ringOf 174 = .ok (.iconst 0, 1) := by decide +kernel
theorem d_Md_ringOf_175 : decode c_Md_ringOf 175 = .ok (.ireturn, 1) := by decide +kernel
theorem d_Md_ringOf_176 : decode c_Md_ringOf 176 = .ok (.aload_n 0, 1) := by decide +kernel
theorem d_Md_ringOf_177 : decode c_Md_ringOf 177 = .ok (.getfield 44, 3) := by decide +kernel
theorem d_Md_ringOf_180 : decode c_Md_ringOf 180 = .ok (.iconst 0, 1) := by decide +kernel
theorem d_Md_ringOf_181 : decode c_Md_ringOf 181 = .ok (.iload_n 1, 1) := by decide +kernel
theorem d_Md_ringOf_182 : decode c_Md_ringOf 182 = .ok (.iastore, 1) := by decide +kernel
theorem d_Md_ringOf_183 : decode c_Md_ringOf 183 = .ok (.iload_n 1, 1) := by decide +kernel
theorem d_Md_ringOf_184 : decode c_Md_ringOf 184 = .ok (.istore 4, 2) := by decide +kernel
theorem d_Md_ringOf_186 : decode c_Md_ringOf 186 = .ok (.iconst 1, 1) := by decide +kernel
theorem d_Md_ringOf_187 : decode c_Md_ringOf 187 = .ok (.istore 5, 2) := by decide +kernel
theorem d_Md_ringOf_189 : decode c_Md_ringOf 189 = .ok (.iload 5, 2) := by decide +kernel
theorem d_Md_ringOf_191 : decode c_Md_ringOf 191 = .ok (.iload_n 3, 1) := by decide +kernel
theorem d_Md_ringOf_192 : decode c_Md_ringOf 192 = .ok (.if_icmp .gt 81, 3) := by decide +kernel
theorem d_Md_ringOf_195 : decode c_Md_ringOf 195 = .ok (.iconst (-1), 1) := by decide +kernel
theorem d_Md_ringOf_196 : decode c_Md_ringOf 196 = .ok (.istore 6, 2) := by decide +kernel
theorem d_Md_ringOf_198 : decode c_Md_ringOf 198 = .ok (.bipush 11, 2) := by decide +kernel
theorem d_Md_ringOf_200 : decode c_Md_ringOf 200 = .ok (.istore 7, 2) := by decide +kernel
theorem d_Md_ringOf_202 : decode c_Md_ringOf 202 = .ok (.iload 7, 2) := by decide +kernel
theorem d_Md_ringOf_204 : decode c_Md_ringOf 204 = .ok (.ifCond .lt 50, 3) := by decide +kernel
theorem d_Md_ringOf_207 : decode c_Md_ringOf 207 = .ok (.aload_n 0, 1) := by decide +kernel
theorem d_Md_ringOf_208 : decode c_Md_ringOf 208 = .ok (.getfield 41, 3) := by decide +kernel
theorem d_Md_ringOf_211 : decode c_Md_ringOf 211 = .ok (.bipush 12, 2) := by decide +kernel
theorem d_Md_ringOf_213 : decode c_Md_ringOf 213 = .ok (.iload 4, 2) := by decide +kernel
theorem d_Md_ringOf_215 : decode c_Md_ringOf 215 = .ok (.imul, 1) := by decide +kernel
theorem d_Md_ringOf_216 : decode c_Md_ringOf 216 = .ok (.iload 7, 2) := by decide +kernel
theorem d_Md_ringOf_218 : decode c_Md_ringOf 218 = .ok (.iadd, 1) := by decide +kernel
theorem d_Md_ringOf_219 : decode c_Md_ringOf 219 = .ok (.baload, 1) := by decide +kernel
theorem d_Md_ringOf_220 : decode c_Md_ringOf 220 = .ok (.ifCond .eq 24, 3) := by decide +kernel
theorem d_Md_ringOf_223 : decode c_Md_ringOf 223 = .ok (.aload_n 0, 1) := by decide +kernel
theorem d_Md_ringOf_224 : decode c_Md_ringOf 224 = .ok (.getfield 32, 3) := by decide +kernel
theorem d_Md_ringOf_227 : decode c_Md_ringOf 227 = .ok (.iload 7, 2) := by decide +kernel
theorem d_Md_ringOf_229 : decode c_Md_ringOf 229 = .ok (.iaload, 1) := by decide +kernel
theorem d_Md_ringOf_230 : decode c_Md_ringOf 230 = .ok (.iload_n 3, 1) := by decide +kernel
theorem d_Md_ringOf_231 : decode c_Md_ringOf 231 = .ok (.iconst 1, 1) := by decide +kernel
theorem d_Md_ringOf_232 : decode c_Md_ringOf 232 = .ok (.iadd, 1) := by decide +kernel
theorem d_Md_ringOf_233 : decode c_Md_ringOf 233 = .ok (.iload 5, 2) := by decide +kernel
theorem d_Md_ringOf_235 : decode c_Md_ringOf 235 = .ok (.isub, 1) := by decide +kernel
theorem d_Md_ringOf_236 : decode c_Md_ringOf 236 = .ok (.if_icmp .ne 8, 3) := by decide +kernel
theorem d_Md_ringOf_239 : decode c_Md_ringOf 239 = .ok (.iload 7, 2) := by decide +kernel
theorem d_Md_ringOf_241 : decode c_Md_ringOf 241 = .ok (.goto 5, 3) := by decide +kernel
theorem d_Md_ringOf_244 : decode c_Md_ringOf 244 = .ok (.iload 6, 2) := by decide +kernel
theorem d_Md_ringOf_246 : decode c_Md_ringOf 246 = .ok (.istore 6, 2) := by decide +kernel
theorem d_Md_ringOf_248 : decode c_Md_ringOf 248 = .ok (.iinc 7 (-1), 3) := by decide +kernel
theorem d_Md_ringOf_251 : decode c_Md_ringOf 251 = .ok (.goto (-49), 3) := by decide +kernel
theorem d_Md_ringOf_254 : decode c_Md_ringOf 254 = .ok (.aload_n 0, 1) := by decide +kernel
theorem d_Md_ringOf_255 : decode c_Md_ringOf 255 = .ok (.getfield 44, 3) := by decide +kernel
theorem d_Md_ringOf_258 : decode c_Md_ringOf 258 = .ok (.iload 5, 2) := by decide +kernel
theorem d_Md_ringOf_260 : decode c_Md_ringOf 260 = .ok (.iload 6, 2) := by decide +kernel
theorem d_Md_ringOf_262 : decode c_Md_ringOf 262 = .ok (.iastore, 1) := by decide +kernel
theorem d_Md_ringOf_263 : decode c_Md_ringOf 263 = .ok (.iload 6, 2) := by decide +kernel
theorem d_Md_ringOf_265 : decode c_Md_ringOf 265 = .ok (.istore 4, 2) := by decide +kernel
theorem d_Md_ringOf_267 : decode c_Md_ringOf 267 = .ok (.iinc 5 1, 3) := by decide +kernel
theorem d_Md_ringOf_270 : decode c_Md_ringOf 270 = .ok (.goto (-81), 3) := by decide +kernel
theorem d_Md_ringOf_273 : decode c_Md_ringOf 273 = .ok (.iload_n 3, 1) := by decide +kernel
theorem d_Md_ringOf_274 : decode c_Md_ringOf 274 = .ok (.iconst 1, 1) := by decide +kernel
theorem d_Md_ringOf_275 : decode c_Md_ringOf 275 = .ok (.iadd, 1) := by decide +kernel
theorem d_Md_ringOf_276 : decode c_Md_ringOf 276 = .ok (.ireturn, 1) := by decide +kernel
theorem d_Md_into_0 : decode c_Md_into 0 = .ok (.aload_n 0, 1) := by decide +kernel
theorem d_Md_into_1 : decode c_Md_into 1 = .ok (.iload_n 1, 1) := by decide +kernel
theorem d_Md_into_2 : decode c_Md_into 2 = .ok (.ifCond .lt 23, 3) := by decide +kernel
theorem d_Md_into_5 : decode c_Md_into 5 = .ok (.iload_n 1, 1) := by decide +kernel
theorem d_Md_into_6 : decode c_Md_into 6 = .ok (.aload_n 0, 1) := by decide +kernel
theorem d_Md_into_7 : decode c_Md_into 7 = .ok (.getfield 103, 3) := by decide +kernel
theorem d_Md_into_10 : decode c_Md_into 10 = .ok (.if_icmp .ge 15, 3) := by decide +kernel
theorem d_Md_into_13 : decode c_Md_into 13 = .ok (.aload_n 0, 1) := by decide +kernel
theorem d_Md_into_14 : decode c_Md_into 14 = .ok (.iload_n 2, 1) := by decide +kernel
theorem d_Md_into_15 : decode c_Md_into 15 = .ok (.invokevirtual 87, 3) := by decide +kernel
theorem d_Md_into_18 : decode c_Md_into 18 = .ok (.ifCond .eq 7, 3) := by decide +kernel
theorem d_Md_into_21 : decode c_Md_into 21 = .ok (.iconst 1, 1) := by decide +kernel
theorem d_Md_into_22 : decode c_Md_into 22 = .ok (.goto 4, 3) := by decide +kernel
theorem d_Md_into_25 : decode c_Md_into 25 = .ok (.iconst 0, 1) := by decide +kernel
theorem d_Md_into_26 : decode c_Md_into 26 = .ok (.iconst 1, 1) := by decide +kernel
theorem d_Md_into_27 : decode c_Md_into 27 = .ok (.invokevirtual 69, 3) := by decide +kernel
theorem d_Md_into_30 : decode c_Md_into 30 = .ok (.ifCond .ne 5, 3) := by decide +kernel
theorem d_Md_into_33 : decode c_Md_into 33 = .ok (.iconst 0, 1) := by decide +kernel
theorem d_Md_into_34 : decode c_Md_into 34 = .ok (.ireturn, 1) := by decide +kernel
theorem d_Md_into_35 : decode c_Md_into 35 = .ok (.aload_n 0, 1) := by decide +kernel
theorem d_Md_into_36 : decode c_Md_into 36 = .ok (.getfield 38, 3) := by decide +kernel
theorem d_Md_into_39 : decode c_Md_into 39 = .ok (.iload_n 2, 1) := by decide +kernel
theorem d_Md_into_40 : decode c_Md_into 40 = .ok (.iaload, 1) := by decide +kernel
theorem d_Md_into_41 : decode c_Md_into 41 = .ok (.istore_n 3, 1) := by decide +kernel
theorem d_Md_into_42 : decode c_Md_into 42 = .ok (.aload_n 0, 1) := by decide +kernel
theorem d_Md_into_43 : decode c_Md_into 43 = .ok (.getfield 38, 3) := by decide +kernel
theorem d_Md_into_46 : decode c_Md_into 46 = .ok (.iload_n 2, 1) := by decide +kernel
theorem d_Md_into_47 : decode c_Md_into 47 = .ok (.iload_n 1, 1) := by decide +kernel
theorem d_Md_into_48 : decode c_Md_into 48 = .ok (.iastore, 1) := by decide +kernel
theorem d_Md_into_49 : decode c_Md_into 49 = .ok (.aload_n 0, 1) := by decide +kernel
theorem d_Md_into_50 : decode c_Md_into 50 = .ok (.invokevirtual 106, 3) := by decide +kernel
theorem d_Md_into_53 : decode c_Md_into 53 = .ok (.aload_n 0, 1) := by decide +kernel
theorem d_Md_into_54 : decode c_Md_into 54 = .ok (.iload_n 1, 1) := by decide +kernel
theorem d_Md_into_55 : decode c_Md_into 55 = .ok (.invokevirtual 109, 3) := by decide +kernel
theorem d_Md_into_58 : decode c_Md_into 58 = .ok (.istore 4, 2) := by decide +kernel
theorem d_Md_into_60 : decode c_Md_into 60 = .ok (.iload 4, 2) := by decide +kernel
theorem d_Md_into_62 : decode c_Md_into 62 = .ok (.ifCond .le 16, 3) := by decide +kernel
theorem d_Md_into_65 : decode c_Md_into 65 = .ok (.aload_n 0, 1) := by decide +kernel
theorem d_Md_into_66 : decode c_Md_into 66 = .ok (.iload 4, 2) := by decide +kernel
theorem d_Md_into_68 : decode c_Md_into 68 = .ok (.putfield 113, 3) := by decide +kernel
theorem d_Md_into_71 : decode c_Md_into 71 = .ok (.aload_n 0, 1) := by decide +kernel
theorem d_Md_into_72 : decode c_Md_into 72 = .ok (.getfield 38, 3) := by decide +kernel
theorem d_Md_into_75 : decode c_Md_into 75 = .ok (.iload_n 2, 1) := by decide +kernel
theorem d_Md_into_76 : decode c_Md_into 76 = .ok (.iload_n 3, 1) := by decide +kernel
theorem d_Md_into_77 : decode c_Md_into 77 = .ok (.iastore, 1) := by decide +kernel
theorem d_Md_into_78 : decode c_Md_into 78 = .ok (.iload 4, 2) := by decide +kernel
theorem d_Md_into_80 : decode c_Md_into 80 = .ok (.ifCond .ne 7, 3) := by decide +kernel
theorem d_Md_into_83 : decode c_Md_into 83 = .ok (.iconst 1, 1) := by decide +kernel
theorem d_Md_into_84 : decode c_Md_into 84 = .ok (.goto 4, 3) := by decide +kernel
theorem d_Md_into_87 : decode c_Md_into 87 = .ok (.iconst 0, 1) := by decide +kernel
theorem d_Md_into_88 : decode c_Md_into 88 = .ok (.ireturn, 1) := by decide +kernel
theorem d_Md_groupRing_0 : decode c_Md_groupRing 0 = .ok (.aload_n 0, 1) := by decide +kernel
theorem d_Md_groupRing_1 : decode c_Md_groupRing 1 = .ok (.iload_n 1, 1) := by decide +kernel
theorem d_Md_groupRing_2 : decode c_Md_groupRing 2 = .ok (.ifCond .lt 7, 3) := by decide +kernel
theorem d_Md_groupRing_5 : decode c_Md_groupRing 5 = .ok (.iconst 1, 1) := by decide +kernel
theorem d_Md_groupRing_6 : decode c_Md_groupRing 6 = .ok (.goto 4, 3) := by decide +kernel
theorem d_Md_groupRing_9 : decode c_Md_groupRing 9 = .ok (.iconst 0, 1) := by decide +kernel
theorem d_Md_groupRing_10 : decode c_Md_groupRing 10 = .ok (.iconst 1, 1) := by decide +kernel
theorem d_Md_groupRing_11 : decode c_Md_groupRing 11 = .ok (.invokevirtual 69, 3) := by decide +kernel
theorem d_Md_groupRing_14 : decode c_Md_groupRing 14 = .ok (.ifCond .ne 5, 3) := by decide +kernel
theorem d_Md_groupRing_17 : decode c_Md_groupRing 17 = .ok (.iconst 0, 1) := by decide +kernel
theorem d_Md_groupRing_18 : decode c_Md_groupRing 18 = .ok (.ireturn, 1) := by decide +kernel
theorem d_Md_groupRing_19 : decode c_Md_groupRing 19 = .ok (.iload_n 1, 1) := by decide +kernel
theorem d_Md_groupRing_20 : decode c_Md_groupRing 20 = .ok (.aload_n 0, 1) := by decide +kernel
theorem d_Md_groupRing_21 : decode c_Md_groupRing 21 = .ok (.getfield 113, 3) := by decide +kernel
theorem d_Md_groupRing_24 : decode c_Md_groupRing 24 = .ok (.if_icmp .ge 12, 3) := by decide +kernel
theorem d_Md_groupRing_27 : decode c_Md_groupRing 27 = .ok (.aload_n 0, 1) := by decide +kernel
theorem d_Md_groupRing_28 : decode c_Md_groupRing 28 = .ok (.getfield 44, 3) := by decide +kernel
theorem d_Md_groupRing_31 : decode c_Md_groupRing 31 = .ok (.iload_n 1, 1) := by decide +kernel
theorem d_Md_groupRing_32 : decode c_Md_groupRing 32 = .ok (.iaload, 1) := by decide +kernel
theorem d_Md_groupRing_33 : decode c_Md_groupRing 33 = .ok (.goto 4, 3) := by decide +kernel
theorem d_Md_groupRing_36 : decode c_Md_groupRing 36 = .ok (.iconst (-1), 1) := by decide +kernel
theorem d_Md_groupRing_37 : decode c_Md_groupRing 37 = .ok (.ireturn, 1) := by decide +kernel
theorem d_Md_groupOf_0 : decode c_Md_groupOf 0 = .ok (.aload_n 0, 1) := by decide +kernel
theorem d_Md_groupOf_1 : decode c_Md_groupOf 1 = .ok (.aload_n 0, 1) := by decide +kernel
theorem d_Md_groupOf_2 : decode c_Md_groupOf 2 = .ok (.iload_n 1, 1) := by decide +kernel
theorem d_Md_groupOf_3 : decode c_Md_groupOf 3 = .ok (.invokevirtual 87, 3) := by decide +kernel
theorem d_Md_groupOf_6 : decode c_Md_groupOf 6 = .ok (.iconst 1, 1) := by decide +kernel
theorem d_Md_groupOf_7 : decode c_Md_groupOf 7 = .ok (.invokevirtual 69, 3) := by decide +kernel
theorem d_Md_groupOf_10 : decode c_Md_groupOf 10 = .ok (.ifCond .eq 12, 3) := by decide +kernel
theorem d_Md_groupOf_13 : decode c_Md_groupOf 13 = .ok (.aload_n 0, 1) := by decide +kernel
theorem d_Md_groupOf_14 : decode c_Md_groupOf 14 = .ok (.getfield 38, 3) := by decide +kernel
theorem d_Md_groupOf_17 : decode c_Md_groupOf 17 = .ok (.iload_n 1, 1) := by decide +kernel
theorem d_Md_groupOf_18 : decode c_Md_groupOf 18 = .ok (.iaload, 1) := by decide +kernel
theorem d_Md_groupOf_19 : decode c_Md_groupOf 19 = .ok (.goto 4, 3) := by decide +kernel
theorem d_Md_groupOf_22 : decode c_Md_groupOf 22 = .ok (.iconst 0, 1) := by decide +kernel
theorem d_Md_groupOf_23 : decode c_Md_groupOf 23 = .ok (.ireturn, 1) := by decide +kernel
theorem d_Md_version_0 : decode c_Md_version 0 = .ok (.aload_n 0, 1) := by decide +kernel
theorem d_Md_version_1 : decode c_Md_version 1 = .ok (.aload_n 0, 1) := by decide +kernel
theorem d_Md_version_2 : decode c_Md_version 2 = .ok (.getfield 116, 3) := by decide +kernel
theorem d_Md_version_5 : decode c_Md_version 5 = .ok (.bipush 8, 2) := by decide +kernel
theorem d_Md_version_7 : decode c_Md_version 7 = .ok (.if_icmp .ge 7, 3) := by decide +kernel
theorem d_Md_version_10 : decode c_Md_version 10 = .ok (.iconst 1, 1) := by decide +kernel
theorem d_Md_version_11 : decode c_Md_version 11 = .ok (.goto 4, 3) := by decide +kernel
theorem d_Md_version_14 : decode c_Md_version 14 = .ok (.iconst 0, 1) := by decide +kernel
theorem d_Md_version_15 : decode c_Md_version 15 = .ok (.iconst 1, 1) := by decide +kernel
theorem d_Md_version_16 : decode c_Md_version 16 = .ok (.invokevirtual 69, 3) := by decide +kernel
theorem d_Md_version_19 : decode c_Md_version 19 = .ok (.ifCond .ne 5, 3) := by decide +kernel
theorem d_Md_version_22 : decode c_Md_version 22 = .ok (.iconst 0, 1) := by decide +kernel
theorem d_Md_version_23 : decode c_Md_version 23 = .ok (.ireturn, 1) := by decide +kernel
theorem d_Md_version_24 : decode c_Md_version 24 = .ok (.aload_n 0, 1) := by decide +kernel
theorem d_Md_version_25 : decode c_Md_version 25 = .ok (.getfield 47, 3) := by decide +kernel
theorem d_Md_version_28 : decode c_Md_version 28 = .ok (.aload_n 0, 1) := by decide +kernel
theorem d_Md_version_29 : decode c_Md_version 29 = .ok (.getfield 116, 3) := by decide +kernel
theorem d_Md_version_32 : decode c_Md_version 32 = .ok (.aload_n 0, 1) := by decide +kernel
theorem d_Md_version_33 : decode c_Md_version 33 = .ok (.getfield 60, 3) := by decide +kernel
theorem d_Md_version_36 : decode c_Md_version 36 = .ok (.iastore, 1) := by decide +kernel
theorem d_Md_version_37 : decode c_Md_version 37 = .ok (.iconst 0, 1) := by decide +kernel
theorem d_Md_version_38 : decode c_Md_version 38 = .ok (.istore_n 1, 1) := by decide +kernel
theorem d_Md_version_39 : decode c_Md_version 39 = .ok (.iload_n 1, 1) := by decide +kernel
theorem d_Md_version_40 : decode c_Md_version 40 = .ok (.aload_n 0, 1) := by decide +kernel
theorem d_Md_version_41 : decode c_Md_version 41 = .ok (.getfield 60, 3) := by decide +kernel
theorem d_Md_version_44 : decode c_Md_version 44 = .ok (.if_icmp .ge 29, 3) := by decide +kernel
theorem d_Md_version_47 : decode c_Md_version 47 = .ok (.aload_n 0, 1) := by decide +kernel
theorem d_Md_version_48 : decode c_Md_version 48 = .ok (.getfield 50, 3) := by decide +kernel
theorem d_Md_version_51 : decode c_Md_version 51 = .ok (.bipush 48, 2) := by decide +kernel
theorem d_Md_version_53 : decode c_Md_version 53 = .ok (.aload_n 0, 1) := by decide +kernel
theorem d_Md_version_54 : decode c_Md_version 54 = .ok (.getfield 116, 3) := by decide +kernel
theorem d_Md_version_57 : decode c_Md_version 57 = .ok (.imul, 1) := by decide +kernel
theorem d_Md_version_58 : decode c_Md_version 58 = .ok (.iload_n 1, 1) := by decide +kernel
theorem d_Md_version_59 : decode c_Md_version 59 = .ok (.iadd, 1) := by decide +kernel
theorem d_Md_version_60 : decode c_Md_version 60 = .ok (.aload_n 0, 1) := by decide +kernel
theorem d_Md_version_61 : decode c_Md_version 61 = .ok (.getfield 23, 3) := by decide +kernel
theorem d_Md_version_64 : decode c_Md_version 64 = .ok (.iload_n 1, 1) := by decide +kernel
theorem d_Md_version_65 : decode c_Md_version 65 = .ok (.iaload, 1) := by decide +kernel
theorem d_Md_version_66 : decode c_Md_version 66 = .ok (.iastore, 1) := by decide +kernel
theorem d_Md_version_67 : decode c_Md_version 67 = .ok (.iinc 1 1, 3) := by decide +kernel
theorem d_Md_version_70 : decode c_Md_version 70 = .ok (.goto (-31), 3) := by decide +kernel
theorem d_Md_version_73 : decode c_Md_version 73 = .ok (.iconst 0, 1) := by decide +kernel
theorem d_Md_version_74 : decode c_Md_version 74 = .ok (.istore_n 1, 1) := by decide +kernel
theorem d_Md_version_75 : decode c_Md_version 75 = .ok (.iload_n 1, 1) := by decide +kernel
theorem d_Md_version_76 : decode c_Md_version 76 = .ok (.sipush 2304, 3) := by decide +kernel
theorem d_Md_version_79 : decode c_Md_version 79 = .ok (.if_icmp .ge 30, 3) := by decide +kernel
theorem d_Md_version_82 : decode c_Md_version 82 = .ok (.aload_n 0, 1) := by decide +kernel
theorem d_Md_version_83 : decode c_Md_version 83 = .ok (.getfield 53, 3) := by decide +kernel
theorem d_Md_version_86 : decode c_Md_version 86 = .ok (.sipush 2304, 3) := by decide +kernel
theorem d_Md_version_89 : decode c_Md_version 89 = .ok (.aload_n 0, 1) := by decide +kernel
theorem d_Md_version_90 : decode c_Md_version 90 = .ok (.getfield 116, 3) := by decide +kernel
theorem d_Md_version_93 : decode c_Md_version 93 = .ok (.imul, 1) := by decide +kernel
theorem d_Md_version_94 : decode c_Md_version 94 = .ok (.iload_n 1, 1) := by decide +kernel
theorem d_Md_version_95 : decode c_Md_version 95 = .ok (.iadd, 1) := by decide +kernel
theorem d_Md_version_96 : decode c_Md_version 96 = .ok (.aload_n 0, 1) := by decide +kernel
theorem d_Md_version_97 : decode c_Md_version 97 = .ok (.getfield 29, 3) := by decide +kernel
theorem d_Md_version_100 : decode c_Md_version 100 = .ok (.iload_n 1, 1) := by decide +kernel
theorem d_Md_version_101 : decode c_Md_version 101 = .ok (.baload, 1) := by decide +kernel
theorem d_Md_version_102 : decode c_Md_version 102 = .ok (.bastore, 1) := by decide +kernel
theorem d_Md_version_103 : decode c_Md_version 103 = .ok (.iinc 1 1, 3) := by decide +kernel
theorem d_Md_version_106 : decode c_Md_version 106 = .ok (.goto (-31), 3) := by decide +kernel
theorem d_Md_version_109 : decode c_Md_version 109 = .ok (.aload_n 0, 1) := by decide +kernel
theorem d_Md_version_110 : decode c_Md_version 110 = .ok (.dup, 1) := by decide +kernel
theorem d_Md_version_111 : decode c_Md_version 111 = .ok (.getfield 116, 3) := by decide +kernel
theorem d_Md_version_114 : decode c_Md_version 114 = .ok (.iconst 1, 1) := by decide +kernel
theorem d_Md_version_115 : decode c_Md_version 115 = .ok (.iadd, 1) := by decide +kernel
theorem d_Md_version_116 : decode c_Md_version 116 = .ok (.putfield 116, 3) := by decide +kernel
theorem d_Md_version_119 : decode c_Md_version 119 = .ok (.aload_n 0, 1) := by decide +kernel
theorem d_Md_version_120 : decode c_Md_version 120 = .ok (.getfield 116, 3) := by decide +kernel
theorem d_Md_version_123 : decode c_Md_version 123 = .ok (.iconst 1, 1) := by decide +kernel
theorem d_Md_version_124 : decode c_Md_version 124 = .ok (.isub, 1) := by decide +kernel
theorem d_Md_version_125 : decode c_Md_version 125 = .ok (.ireturn, 1) := by decide +kernel
theorem d_Md_isOver_0 : decode c_Md_isOver 0 = .ok (.iload_n 2, 1) := by decide +kernel
theorem d_Md_isOver_1 : decode c_Md_isOver 1 = .ok (.aload_n 0, 1) := by decide +kernel
theorem d_Md_isOver_2 : decode c_Md_isOver 2 = .ok (.getfield 47, 3) := by decide +kernel
theorem d_Md_isOver_5 : decode c_Md_isOver 5 = .ok (.iload_n 1, 1) := by decide +kernel
theorem d_Md_isOver_6 : decode c_Md_isOver 6 = .ok (.iaload, 1) := by decide +kernel
theorem d_Md_isOver_7 : decode c_Md_isOver 7 = .ok (.if_icmp .ge 37, 3) := by decide +kernel
theorem d_Md_isOver_10 : decode c_Md_isOver 10 = .ok (.aload_n 0, 1) := by decide +kernel
theorem d_Md_isOver_11 : decode c_Md_isOver 11 = .ok (.getfield 53, 3) := by decide +kernel
theorem d_Md_isOver_14 : decode c_Md_isOver 14 = .ok (.sipush 2304, 3) := by decide +kernel
theorem d_Md_isOver_17 : decode c_Md_isOver 17 = .ok (.iload_n 1, 1) := by decide +kernel
theorem d_Md_isOver_18 : decode c_Md_isOver 18 = .ok (.imul, 1) := by decide +kernel
theorem d_Md_isOver_19 : decode c_Md_isOver 19 = .ok (.bipush 48, 2) := by decide +kernel
theorem d_Md_isOver_21 : decode c_Md_isOver 21 = .ok (.aload_n 0, 1) := by decide +kernel
theorem d_Md_isOver_22 : decode c_Md_isOver 22 = .ok (.getfield 50, 3) := by decide +kernel
theorem d_Md_isOver_25 : decode c_Md_isOver 25 = .ok (.bipush 48, 2) := by decide +kernel
theorem d_Md_isOver_27 : decode c_Md_isOver 27 = .ok (.iload_n 1, 1) := by decide +kernel
theorem d_Md_isOver_28 : decode c_Md_isOver 28 = .ok (.imul, 1) := by decide +kernel
theorem d_Md_isOver_29 : decode c_Md_isOver 29 = .ok (.iload_n 2, 1) := by decide +kernel
theorem d_Md_isOver_30 : decode c_Md_isOver 30 = .ok (.iadd, 1) := by decide +kernel
theorem d_Md_isOver_31 : decode c_Md_isOver 31 = .ok (.iaload, 1) := by decide +kernel
theorem d_Md_isOver_32 : decode c_Md_isOver 32 = .ok (.imul, 1) := by decide +kernel
theorem d_Md_isOver_33 : decode c_Md_isOver 33 = .ok (.iadd, 1) := by decide +kernel
theorem d_Md_isOver_34 : decode c_Md_isOver 34 = .ok (.iload_n 3, 1) := by decide +kernel
theorem d_Md_isOver_35 : decode c_Md_isOver 35 = .ok (.iadd, 1) := by decide +kernel
theorem d_Md_isOver_36 : decode c_Md_isOver 36 = .ok (.baload, 1) := by decide +kernel
theorem d_Md_isOver_37 : decode c_Md_isOver 37 = .ok (.ifCond .eq 7, 3) := by decide +kernel
theorem d_Md_isOver_40 : decode c_Md_isOver 40 = .ok (.iconst 1, 1) := by decide +kernel
theorem d_Md_isOver_41 : decode c_Md_isOver 41 = .ok (.goto 4, 3) := by decide +kernel
theorem d_Md_isOver_44 : decode c_Md_isOver 44 = .ok (.iconst 0, 1) := by decide +kernel
theorem d_Md_isOver_45 : decode c_Md_isOver 45 = .ok (.ireturn, 1) := by decide +kernel
theorem d_Md_isUnder_0 : decode c_Md_isUnder 0 = .ok (.iload_n 2, 1) := by decide +kernel
theorem d_Md_isUnder_1 : decode c_Md_isUnder 1 = .ok (.aload_n 0, 1) := by decide +kernel
theorem d_Md_isUnder_2 : decode c_Md_isUnder 2 = .ok (.getfield 47, 3) := by decide +kernel
theorem d_Md_isUnder_5 : decode c_Md_isUnder 5 = .ok (.iload_n 1, 1) := by decide +kernel
theorem d_Md_isUnder_6 : decode c_Md_isUnder 6 = .ok (.iaload, 1) := by decide +kernel
theorem d_Md_isUnder_7 : decode c_Md_isUnder 7 = .ok (.if_icmp .ge 37, 3) := by decide +kernel
theorem d_Md_isUnder_10 : decode c_Md_isUnder 10 = .ok (.aload_n 0, 1) := by decide +kernel
theorem d_Md_isUnder_11 : decode c_Md_isUnder 11 = .ok (.getfield 53, 3) := by decide +kernel
theorem d_Md_isUnder_14 : decode c_Md_isUnder 14 = .ok (.sipush 2304, 3) := by decide +kernel
theorem d_Md_isUnder_17 : decode c_Md_isUnder 17 = .ok (.iload_n 1, 1) := by decide +kernel
theorem d_Md_isUnder_18 : decode c_Md_isUnder 18 = .ok (.imul, 1) := by decide +kernel
theorem d_Md_isUnder_19 : decode c_Md_isUnder 19 = .ok (.bipush 48, 2) := by decide +kernel
theorem d_Md_isUnder_21 : decode c_Md_isUnder 21 = .ok (.iload_n 3, 1) := by decide +kernel
theorem d_Md_isUnder_22 : decode c_Md_isUnder 22 = .ok (.imul, 1) := by decide +kernel
theorem d_Md_isUnder_23 : decode c_Md_isUnder 23 = .ok (.iadd, 1) := by decide +kernel
theorem d_Md_isUnder_24 : decode c_Md_isUnder 24 = .ok (.aload_n 0, 1) := by decide +kernel
theorem d_Md_isUnder_25 : decode c_Md_isUnder 25 = .ok (.getfield 50, 3) := by decide +kernel
theorem d_Md_isUnder_28 : decode c_Md_isUnder 28 = .ok (.bipush 48, 2) := by decide +kernel
theorem d_Md_isUnder_30 : decode c_Md_isUnder 30 = .ok (.iload_n 1, 1) := by decide +kernel
theorem d_Md_isUnder_31 : decode c_Md_isUnder 31 = .ok (.imul, 1) := by decide +kernel
theorem d_Md_isUnder_32 : decode c_Md_isUnder 32 = .ok (.iload_n 2, 1) := by decide +kernel
theorem d_Md_isUnder_33 : decode c_Md_isUnder 33 = .ok (.iadd, 1) := by decide +kernel
theorem d_Md_isUnder_34 : decode c_Md_isUnder 34 = .ok (.iaload, 1) := by decide +kernel
theorem d_Md_isUnder_35 : decode c_Md_isUnder 35 = .ok (.iadd, 1) := by decide +kernel
theorem d_Md_isUnder_36 : decode c_Md_isUnder 36 = .ok (.baload, 1) := by decide +kernel
theorem d_Md_isUnder_37 : decode c_Md_isUnder 37 = .ok (.ifCond .eq 7, 3) := by decide +kernel
theorem d_Md_isUnder_40 : decode c_Md_isUnder 40 = .ok (.iconst 1, 1) := by decide +kernel
theorem d_Md_isUnder_41 : decode c_Md_isUnder 41 = .ok (.goto 4, 3) := by decide +kernel
theorem d_Md_isUnder_44 : decode c_Md_isUnder 44 = .ok (.iconst 0, 1) := by decide +kernel
theorem d_Md_isUnder_45 : decode c_Md_isUnder 45 = .ok (.ireturn, 1) := by decide +kernel
theorem d_Md_differ_0 : decode c_Md_differ 0 = .ok (.iload_n 3, 1) := by decide +kernel
theorem d_Md_differ_1 : decode c_Md_differ 1 = .ok (.aload_n 0, 1) := by decide +kernel
theorem d_Md_differ_2 : decode c_Md_differ 2 = .ok (.getfield 47, 3) := by decide +kernel
theorem d_Md_differ_5 : decode c_Md_differ 5 = .ok (.iload_n 1, 1) := by decide +kernel
theorem d_Md_differ_6 : decode c_Md_differ 6 = .ok (.iaload, 1) := by decide +kernel
theorem d_Md_differ_7 : decode c_Md_differ 7 = .ok (.if_icmp .ge 7, 3) := by decide +kernel
theorem d_Md_differ_10 : decode c_Md_differ 10 = .ok (.iconst 1, 1) := by decide +kernel
theorem d_Md_differ_11 : decode c_Md_differ 11 = .ok (.goto 4, 3) := by decide +kernel
theorem d_Md_differ_14 : decode c_Md_differ 14 = .ok (.iconst 0, 1) := by decide +kernel
theorem d_Md_differ_15 : decode c_Md_differ 15 = .ok (.istore 4, 2) := by decide +kernel
theorem d_Md_differ_17 : decode c_Md_differ 17 = .ok (.iload_n 3, 1) := by decide +kernel
theorem d_Md_differ_18 : decode c_Md_differ 18 = .ok (.aload_n 0, 1) := by decide +kernel
theorem d_Md_differ_19 : decode c_Md_differ 19 = .ok (.getfield 47, 3) := by decide +kernel
theorem d_Md_differ_22 : decode c_Md_differ 22 = .ok (.iload_n 2, 1) := by decide +kernel
theorem d_Md_differ_23 : decode c_Md_differ 23 = .ok (.iaload, 1) := by decide +kernel
theorem d_Md_differ_24 : decode c_Md_differ 24 = .ok (.if_icmp .ge 7, 3) := by decide +kernel
theorem d_Md_differ_27 : decode c_Md_differ 27 = .ok (.iconst 1, 1) := by decide +kernel
theorem d_Md_differ_28 : decode c_Md_differ 28 = .ok (.goto 4, 3) := by decide +kernel
theorem d_Md_differ_31 : decode c_Md_differ 31 = .ok (.iconst 0, 1) := by decide +kernel
theorem d_Md_differ_32 : decode c_Md_differ 32 = .ok (.istore 5, 2) := by decide +kernel
theorem d_Md_differ_34 : decode c_Md_differ 34 = .ok (.iload 4, 2) := by decide +kernel
theorem d_Md_differ_36 : decode c_Md_differ 36 = .ok (.iload 5, 2) := by decide +kernel
theorem d_Md_differ_38 : decode c_Md_differ 38 = .ok (.if_icmp .eq 5, 3) := by decide +kernel
theorem d_Md_differ_41 : decode c_Md_differ 41 = .ok (.iconst 1, 1) := by decide +kernel
theorem d_Md_differ_42 : decode c_Md_differ 42 = .ok (.ireturn, 1) := by decide +kernel
theorem d_Md_differ_43 : decode c_Md_differ 43 = .ok (.aload_n 0, 1) := by decide +kernel
theorem d_Md_differ_44 : decode c_Md_differ 44 = .ok (.getfield 50, 3) := by decide +kernel
theorem d_Md_differ_47 : decode c_Md_differ 47 = .ok (.bipush 48, 2) := by decide +kernel
theorem d_Md_differ_49 : decode c_Md_differ 49 = .ok (.iload_n 1, 1) := by decide +kernel
theorem d_Md_differ_50 : decode c_Md_differ 50 = .ok (.imul, 1) := by decide +kernel
theorem d_Md_differ_51 : decode c_Md_differ 51 = .ok (.iload_n 3, 1) := by decide +kernel
theorem d_Md_differ_52 : decode c_Md_differ 52 = .ok (.iadd, 1) := by decide +kernel
theorem d_Md_differ_53 : decode c_Md_differ 53 = .ok (.iaload, 1) := by decide +kernel
theorem d_Md_differ_54 : decode c_Md_differ 54 = .ok (.istore 6, 2) := by decide +kernel
theorem d_Md_differ_56 : decode c_Md_differ 56 = .ok (.aload_n 0, 1) := by decide +kernel
theorem d_Md_differ_57 : decode c_Md_differ 57 = .ok (.getfield 50, 3) := by decide +kernel
theorem d_Md_differ_60 : decode c_Md_differ 60 = .ok (.bipush 48, 2) := by decide +kernel
theorem d_Md_differ_62 : decode c_Md_differ 62 = .ok (.iload_n 2, 1) := by decide +kernel
theorem d_Md_differ_63 : decode c_Md_differ 63 = .ok (.imul, 1) := by decide +kernel
theorem d_Md_differ_64 : decode c_Md_differ 64 = .ok (.iload_n 3, 1) := by decide +kernel
theorem d_Md_differ_65 : decode c_Md_differ 65 = .ok (.iadd, 1) := by decide +kernel
theorem d_Md_differ_66 : decode c_Md_differ 66 = .ok (.iaload, 1) := by decide +kernel
theorem d_Md_differ_67 : decode c_Md_differ 67 = .ok (.istore 7, 2) := by decide +kernel
theorem d_Md_differ_69 : decode c_Md_differ 69 = .ok (.iload 6, 2) := by decide +kernel
theorem d_Md_differ_71 : decode c_Md_differ 71 = .ok (.iload 7, 2) := by decide +kernel
theorem d_Md_differ_73 : decode c_Md_differ 73 = .ok (.if_icmp .eq 7, 3) := by decide +kernel
theorem d_Md_differ_76 : decode c_Md_differ 76 = .ok (.iconst 1, 1) := by decide +kernel
theorem d_Md_differ_77 : decode c_Md_differ 77 = .ok (.goto 4, 3) := by decide +kernel
theorem d_Md_differ_80 : decode c_Md_differ 80 = .ok (.iconst 0, 1) := by decide +kernel
theorem d_Md_differ_81 : decode c_Md_differ 81 = .ok (.istore 8, 2) := by decide +kernel
theorem d_Md_differ_83 : decode c_Md_differ 83 = .ok (.iconst 0, 1) := by decide +kernel
theorem d_Md_differ_84 : decode c_Md_differ 84 = .ok (.istore 9, 2) := by decide +kernel
theorem d_Md_differ_86 : decode c_Md_differ 86 = .ok (.iload 9, 2) := by decide +kernel
theorem d_Md_differ_88 : decode c_Md_differ 88 = .ok (.bipush 48, 2) := by decide +kernel
theorem d_Md_differ_90 : decode c_Md_differ 90 = .ok (.if_icmp .ge 68, 3) := by decide +kernel
theorem d_Md_differ_93 : decode c_Md_differ 93 = .ok (.iload 4, 2) := by decide +kernel
theorem d_Md_differ_95 : decode c_Md_differ 95 = .ok (.ifCond .eq 63, 3) := by decide +kernel
theorem d_Md_differ_98 : decode c_Md_differ 98 = .ok (.iload 8, 2) := by decide +kernel
theorem d_Md_differ_100 : decode c_Md_differ 100 = .ok (.ifCond .ne 45, 3) := by decide +kernel
theorem d_Md_differ_103 : decode c_Md_differ 103 = .ok (.aload_n 0, 1) := by decide +kernel
theorem d_Md_differ_104 : decode c_Md_differ 104 = .ok (.iload_n 1, 1) := by decide +kernel
theorem d_Md_differ_105 : decode c_Md_differ 105 = .ok (.iload 9, 2) := by decide +kernel
theorem d_Md_differ_107 : decode c_Md_differ 107 = .ok (.iload 6, 2) := by decide +kernel
theorem d_Md_differ_109 : decode c_Md_differ 109 = .ok (.invokevirtual 119, 3) := by decide +kernel
theorem d_Md_differ_112 : decode c_Md_differ 112 = .ok (.aload_n 0, 1) := by decide +kernel
theorem d_Md_differ_113 : decode c_Md_differ 113 = .ok (.iload_n 2, 1) := by decide +kernel
theorem d_Md_differ_114 : decode c_Md_differ 114 = .ok (.iload 9, 2) := by decide +kernel
theorem d_Md_differ_116 : decode c_Md_differ 116 = .ok (.iload 7, 2) := by decide +kernel
theorem d_Md_differ_118 : decode c_Md_differ 118 = .ok (.invokevirtual 119, 3) := by decide +kernel
theorem d_Md_differ_121 : decode c_Md_differ 121 = .ok (.if_icmp .ne 24, 3) := by decide +kernel
theorem d_Md_differ_124 : decode c_Md_differ 124 = .ok (.aload_n 0, 1) := by decide +kernel
theorem d_Md_differ_125 : decode c_Md_differ 125 = .ok (.iload_n 1, 1) := by decide +kernel
theorem d_Md_differ_126 : decode c_Md_differ 126 = .ok (.iload 9, 2) := by decide +kernel
theorem d_Md_differ_128 : decode c_Md_differ 128 = .ok (.iload 6, 2) := by decide +kernel
theorem d_Md_differ_130 : decode c_Md_differ 130 = .ok (.invokevirtual 122, 3) := by decide +kernel
theorem d_Md_differ_133 : decode c_Md_differ 133 = .ok (.aload_n 0, 1) := by decide +kernel
theorem d_Md_differ_134 : decode c_Md_differ 134 = .ok (.iload_n 2, 1) := by decide +kernel
theorem d_Md_differ_135 : decode c_Md_differ 135 = .ok (.iload 9, 2) := by decide +kernel
theorem d_Md_differ_137 : decode c_Md_differ 137 = .ok (.iload 7, 2) := by decide +kernel
theorem d_Md_differ_139 : decode c_Md_differ 139 = .ok (.invokevirtual 122, 3) := by decide +kernel
theorem d_Md_differ_142 : decode c_Md_differ 142 = .ok (.if_icmp .eq 7, 3) := by decide +kernel
theorem d_Md_differ_145 : decode c_Md_differ 145 = .ok (.iconst 1, 1) := by decide +kernel
theorem d_Md_differ_146 : decode c_Md_differ 146 = .ok (.goto 4, 3) := by decide +kernel
theorem d_Md_differ_149 : decode c_Md_differ 149 = .ok (.iconst 0, 1) := by decide +kernel
theorem d_Md_differ_150 : decode c_Md_differ 150 = .ok (.istore 8, 2) := by decide +kernel
theorem d_Md_differ_152 : decode c_Md_differ 152 = .ok (.iinc 9 1, 3) := by decide +kernel
theorem d_Md_differ_155 : decode c_Md_differ 155 = .ok (.goto (-69), 3) := by decide +kernel
theorem d_Md_differ_158 : decode c_Md_differ 158 = .ok (.iload 4, 2) := by decide +kernel
theorem d_Md_differ_160 : decode c_Md_differ 160 = .ok (.ifCond .eq 12, 3) := by decide +kernel
theorem d_Md_differ_163 : decode c_Md_differ 163 = .ok (.iload 8, 2) := by decide +kernel
theorem d_Md_differ_165 : decode c_Md_differ 165 = .ok (.ifCond .eq 7, 3) := by decide +kernel
theorem d_Md_differ_168 : decode c_Md_differ 168 = .ok (.iconst 1, 1) := by decide +kernel
theorem d_Md_differ_169 : decode c_Md_differ 169 = .ok (.goto 4, 3) := by decide +kernel
theorem d_Md_differ_172 : decode c_Md_differ 172 = .ok (.iconst 0, 1) := by decide +kernel
theorem d_Md_differ_173 : decode c_Md_differ 173 = .ok (.ireturn, 1) := by decide +kernel
theorem d_Md_differs_0 : decode c_Md_differs 0 = .ok (.aload_n 0, 1) := by decide +kernel
theorem d_Md_differs_1 : decode c_Md_differs 1 = .ok (.iload_n 1, 1) := by decide +kernel
theorem d_Md_differs_2 : decode c_Md_differs 2 = .ok (.ifCond .lt 31, 3) := by decide +kernel
theorem d_Md_differs_5 : decode c_Md_differs 5 = .ok (.iload_n 1, 1) := by decide +kernel
theorem d_Md_differs_6 : decode c_Md_differs 6 = .ok (.aload_n 0, 1) := by decide +kernel
theorem d_Md_differs_7 : decode c_Md_differs 7 = .ok (.getfield 116, 3) := by decide +kernel
theorem d_Md_differs_10 : decode c_Md_differs 10 = .ok (.if_icmp .ge 23, 3) := by decide +kernel
theorem d_Md_differs_13 : decode c_Md_differs 13 = .ok (.iload_n 2, 1) := by decide +kernel
theorem d_Md_differs_14 : decode c_Md_differs 14 = .ok (.ifCond .lt 19, 3) := by decide +kernel
theorem d_Md_differs_17 : decode c_Md_differs 17 = .ok (.iload_n 2, 1) := by decide +kernel
theorem d_Md_differs_18 : decode c_Md_differs 18 = .ok (.aload_n 0, 1) := by decide +kernel
theorem d_Md_differs_19 : decode c_Md_differs 19 = .ok (.getfield 116, 3) := by decide +kernel
theorem d_Md_differs_22 : decode c_Md_differs 22 = .ok (.if_icmp .ge 11, 3) := by decide +kernel
theorem d_Md_differs_25 : decode c_Md_differs 25 = .ok (.iload_n 3, 1) := by decide +kernel
theorem d_Md_differs_26 : decode c_Md_differs 26 = .ok (.ifCond .lt 7, 3) := by decide +kernel
theorem d_Md_differs_29 : decode c_Md_differs 29 = .ok (.iconst 1, 1) := by decide +kernel
theorem d_Md_differs_30 : decode c_Md_differs 30 = .ok (.goto 4, 3) := by decide +kernel
theorem d_Md_differs_33 : decode c_Md_differs 33 = .ok (.iconst 0, 1) := by decide +kernel
theorem d_Md_differs_34 : decode c_Md_differs 34 = .ok (.iconst 1, 1) := by decide +kernel
theorem d_Md_differs_35 : decode c_Md_differs 35 = .ok (.invokevirtual 69, 3) := by decide +kernel
theorem d_Md_differs_38 : decode c_Md_differs 38 = .ok (.ifCond .ne 5, 3) := by decide +kernel
theorem d_Md_differs_41 : decode c_Md_differs 41 = .ok (.iconst 0, 1) := by decide +kernel
theorem d_Md_differs_42 : decode c_Md_differs 42 = .ok (.ireturn, 1) := by decide +kernel
theorem d_Md_differs_43 : decode c_Md_differs 43 = .ok (.iconst 0, 1) := by decide +kernel
theorem d_Md_differs_44 : decode c_Md_differs 44 = .ok (.istore 4, 2) := by decide +kernel
theorem d_Md_differs_46 : decode c_Md_differs 46 = .ok (.iconst 0, 1) := by decide +kernel
theorem d_Md_differs_47 : decode c_Md_differs 47 = .ok (.istore 5, 2) := by decide +kernel
theorem d_Md_differs_49 : decode c_Md_differs 49 = .ok (.iload 5, 2) := by decide +kernel
theorem d_Md_differs_51 : decode c_Md_differs 51 = .ok (.bipush 48, 2) := by decide +kernel
theorem d_Md_differs_53 : decode c_Md_differs 53 = .ok (.if_icmp .ge 32, 3) := by decide +kernel
theorem d_Md_differs_56 : decode c_Md_differs 56 = .ok (.aload_n 0, 1) := by decide +kernel
theorem d_Md_differs_57 : decode c_Md_differs 57 = .ok (.iload_n 1, 1) := by decide +kernel
theorem d_Md_differs_58 : decode c_Md_differs 58 = .ok (.iload_n 2, 1) := by decide +kernel
theorem d_Md_differs_59 : decode c_Md_differs 59 = .ok (.iload 5, 2) := by decide +kernel
theorem d_Md_differs_61 : decode c_Md_differs 61 = .ok (.invokevirtual 125, 3) := by decide +kernel
theorem d_Md_differs_64 : decode c_Md_differs 64 = .ok (.ifCond .eq 15, 3) := by decide +kernel
theorem d_Md_differs_67 : decode c_Md_differs 67 = .ok (.iload 4, 2) := by decide +kernel
theorem d_Md_differs_69 : decode c_Md_differs 69 = .ok (.iload_n 3, 1) := by decide +kernel
theorem d_Md_differs_70 : decode c_Md_differs 70 = .ok (.if_icmp .ne 6, 3) := by decide +kernel
theorem d_Md_differs_73 : decode c_Md_differs 73 = .ok (.iload 5, 2) := by decide +kernel
theorem d_Md_differs_75 : decode c_Md_differs 75 = .ok (.ireturn, 1) := by decide +kernel
theorem d_Md_differs_76 : decode c_Md_differs 76 = .ok (.iinc 4 1, 3) := by decide +kernel
theorem d_Md_differs_79 : decode c_Md_differs 79 = .ok (.iinc 5 1, 3) := by decide +kernel
theorem d_Md_differs_82 : decode c_Md_differs 82 = .ok (.goto (-33), 3) := by decide +kernel
theorem d_Md_differs_85 : decode c_Md_differs 85 = .ok (.iconst (-1), 1) := by decide +kernel
theorem d_Md_differs_86 : decode c_Md_differs 86 = .ok (.ireturn, 1) := by decide +kernel
theorem d_Md_count_0 : decode c_Md_count 0 = .ok (.aload_n 0, 1) := by decide +kernel
theorem d_Md_count_1 : decode c_Md_count 1 = .ok (.iload_n 1, 1) := by decide +kernel
theorem d_Md_count_2 : decode c_Md_count 2 = .ok (.ifCond .lt 12, 3) := by decide +kernel
theorem d_Md_count_5 : decode c_Md_count 5 = .ok (.iload_n 1, 1) := by decide +kernel
theorem d_Md_count_6 : decode c_Md_count 6 = .ok (.iconst 4, 1) := by decide +kernel
theorem d_Md_count_7 : decode c_Md_count 7 = .ok (.if_icmp .gt 7, 3) := by decide +kernel
theorem d_Md_count_10 : decode c_Md_count 10 = .ok (.iconst 1, 1) := by decide +kernel
theorem d_Md_count_11 : decode c_Md_count 11 = .ok (.goto 4, 3) := by decide +kernel
theorem d_Md_count_14 : decode c_Md_count 14 = .ok (.iconst 0, 1) := by decide +kernel
theorem d_Md_count_15 : decode c_Md_count 15 = .ok (.iconst 1, 1) := by decide +kernel
theorem d_Md_count_16 : decode c_Md_count 16 = .ok (.invokevirtual 69, 3) := by decide +kernel
theorem d_Md_count_19 : decode c_Md_count 19 = .ok (.ifCond .ne 5, 3) := by decide +kernel
theorem d_Md_count_22 : decode c_Md_count 22 = .ok (.iconst 0, 1) := by decide +kernel
theorem d_Md_count_23 : decode c_Md_count 23 = .ok (.ireturn, 1) := by decide +kernel
theorem d_Md_count_24 : decode c_Md_count 24 = .ok (.iconst 0, 1) := by decide +kernel
theorem d_Md_count_25 : decode c_Md_count 25 = .ok (.istore_n 2, 1) := by decide +kernel
theorem d_Md_count_26 : decode c_Md_count 26 = .ok (.iload_n 1, 1) := by decide +kernel
theorem d_Md_count_27 : decode c_Md_count 27 = .ok (.iconst 1, 1) := by decide +kernel
theorem d_Md_count_28 : decode c_Md_count 28 = .ok (.if_icmp .ne 39, 3) := by decide +kernel
theorem d_Md_count_31 : decode c_Md_count 31 = .ok (.iconst 0, 1) := by decide +kernel
theorem d_Md_count_32 : decode c_Md_count 32 = .ok (.istore_n 3, 1) := by decide +kernel
theorem d_Md_count_33 : decode c_Md_count 33 = .ok (.iload_n 3, 1) := by decide +kernel
theorem d_Md_count_34 : decode c_Md_count 34 = .ok (.aload_n 0, 1) := by decide +kernel
theorem d_Md_count_35 : decode c_Md_count 35 = .ok (.getfield 63, 3) := by decide +kernel
theorem d_Md_count_38 : decode c_Md_count 38 = .ok (.if_icmp .ge 26, 3) := by decide +kernel
theorem d_Md_count_41 : decode c_Md_count 41 = .ok (.aload_n 0, 1) := by decide +kernel
theorem d_Md_count_42 : decode c_Md_count 42 = .ok (.getfield 19, 3) := by decide +kernel
theorem d_Md_count_45 : decode c_Md_count 45 = .ok (.iload_n 3, 1) := by decide +kernel
theorem d_Md_count_46 : decode c_Md_count 46 = .ok (.baload, 1) := by decide +kernel
theorem d_Md_count_47 : decode c_Md_count 47 = .ok (.ifCond .eq 7, 3) := by decide +kernel
theorem d_Md_count_50 : decode c_Md_count 50 = .ok (.iload_n 2, 1) := by decide +kernel
theorem d_Md_count_51 : decode c_Md_count 51 = .ok (.goto 6, 3) := by decide +kernel
theorem d_Md_count_54 : decode c_Md_count 54 = .ok (.iload_n 2, 1) := by decide +kernel
theorem d_Md_count_55 : decode c_Md_count 55 = .ok (.iconst 1, 1) := by decide +kernel
theorem d_Md_count_56 : decode c_Md_count 56 = .ok (.iadd, 1) := by decide +kernel
theorem d_Md_count_57 : decode c_Md_count 57 = .ok (.istore_n 2, 1) := by decide +kernel
theorem d_Md_count_58 : decode c_Md_count 58 = .ok (.iinc 3 1, 3) := by decide +kernel
theorem d_Md_count_61 : decode c_Md_count 61 = .ok (.goto (-28), 3) := by decide +kernel
theorem d_Md_count_64 : decode c_Md_count 64 = .ok (.goto 82, 3) := by decide +kernel
theorem d_Md_count_67 : decode c_Md_count 67 = .ok (.iload_n 1, 1) := by decide +kernel
theorem d_Md_count_68 : decode c_Md_count 68 = .ok (.iconst 2, 1) := by decide +kernel
theorem d_Md_count_69 : decode c_Md_count 69 = .ok (.if_icmp .ne 40, 3) := by decide +kernel
theorem d_Md_count_72 : decode c_Md_count 72 = .ok (.iconst 0, 1) := by decide +kernel
theorem d_Md_count_73 : decode c_Md_count 73 = .ok (.istore_n 3, 1) := by decide +kernel
theorem d_Md_count_74 : decode c_Md_count 74 = .ok (.iload_n 3, 1) := by decide +kernel
theorem d_Md_count_75 : decode c_Md_count 75 = .ok (.aload_n 0, 1) := by decide +kernel
theorem d_Md_count_76 : decode c_Md_count 76 = .ok (.getfield 60, 3) := by decide +kernel
theorem d_Md_count_79 : decode c_Md_count 79 = .ok (.if_icmp .ge 27, 3) := by decide +kernel
theorem d_Md_count_82 : decode c_Md_count 82 = .ok (.aload_n 0, 1) := by decide +kernel
theorem d_Md_count_83 : decode c_Md_count 83 = .ok (.getfield 23, 3) := by decide +kernel
theorem d_Md_count_86 : decode c_Md_count 86 = .ok (.iload_n 3, 1) := by decide +kernel
theorem d_Md_count_87 : decode c_Md_count 87 = .ok (.iaload, 1) := by decide +kernel
theorem d_Md_count_88 : decode c_Md_count 88 = .ok (.iload_n 3, 1) := by decide +kernel
theorem d_Md_count_89 : decode c_Md_count 89 = .ok (.if_icmp .ne 9, 3) := by decide +kernel
theorem d_Md_count_92 : decode c_Md_count 92 = .ok (.iload_n 2, 1) := by decide +kernel
theorem d_Md_count_93 : decode c_Md_count 93 = .ok (.iconst 1, 1) := by decide +kernel
theorem d_Md_count_94 : decode c_Md_count 94 = .ok (.iadd, 1) := by decide +kernel
theorem d_Md_count_95 : decode c_Md_count 95 = .ok (.goto 4, 3) := by decide +kernel
theorem d_Md_count_98 : decode c_Md_count 98 = .ok (.iload_n 2, 1) := by decide +kernel
theorem d_Md_count_99 : decode c_Md_count 99 = .ok (.istore_n 2, 1) := by decide +kernel
theorem d_Md_count_100 : decode c_Md_count 100 = .ok (.iinc 3 1, 3) := by decide +kernel
theorem d_Md_count_103 : decode c_Md_count 103 = .ok (.goto (-29), 3) := by decide +kernel
theorem d_Md_count_106 : decode c_Md_count 106 = .ok (.goto 40, 3) := by decide +kernel
theorem d_Md_count_109 : decode c_Md_count 109 = .ok (.iload_n 1, 1) := by decide +kernel
theorem d_Md_count_110 : decode c_Md_count 110 = .ok (.iconst 3, 1) := by decide +kernel
theorem d_Md_count_111 : decode c_Md_count 111 = .ok (.if_icmp .ne 35, 3) := by decide +kernel
theorem d_Md_count_114 : decode c_Md_count 114 = .ok (.iconst 0, 1) := by decide +kernel
theorem d_Md_count_115 : decode c_Md_count 115 = .ok (.istore_n 3, 1) := by decide +kernel
theorem d_Md_count_116 : decode c_Md_count 116 = .ok (.iload_n 3, 1) := by decide +kernel
theorem d_Md_count_117 : decode c_Md_count 117 = .ok (.sipush 2304, 3) := by decide +kernel
theorem d_Md_count_120 : decode c_Md_count 120 = .ok (.if_icmp .ge 26, 3) := by decide +kernel
theorem d_Md_count_123 : decode c_Md_count 123 = .ok (.aload_n 0, 1) := by decide +kernel
theorem d_Md_count_124 : decode c_Md_count 124 = .ok (.getfield 29, 3) := by decide +kernel
theorem d_Md_count_127 : decode c_Md_count 127 = .ok (.iload_n 3, 1) := by decide +kernel
theorem d_Md_count_128 : decode c_Md_count 128 = .ok (.baload, 1) := by decide +kernel
theorem d_Md_count_129 : decode c_Md_count 129 = .ok (.ifCond .eq 9, 3) := by decide +kernel
theorem d_Md_count_132 : decode c_Md_count 132 = .ok (.iload_n 2, 1) := by decide +kernel
theorem d_Md_count_133 : decode c_Md_count 133 = .ok (.iconst 1, 1) := by decide +kernel
theorem d_Md_count_134 : decode c_Md_count 134 = .ok (.iadd, 1) := by decide +kernel
theorem d_Md_count_135 : decode c_Md_count 135 = .ok (.goto 4, 3) := by decide +kernel
theorem d_Md_count_138 : decode c_Md_count 138 = .ok (.iload_n 2, 1) := by decide +kernel
theorem d_Md_count_139 : decode c_Md_count 139 = .ok (.istore_n 2, 1) := by decide +kernel
theorem d_Md_count_140 : decode c_Md_count 140 = .ok (.iinc 3 1, 3) := by decide +kernel
theorem d_Md_count_143 : decode c_Md_count 143 = .ok (.goto (-27), 3) := by decide +kernel
theorem d_Md_count_146 : decode c_Md_count 146 = .ok (.iload_n 1, 1) := by decide +kernel
theorem d_Md_count_147 : decode c_Md_count 147 = .ok (.ifCond .ne 10, 3) := by decide +kernel
theorem d_Md_count_150 : decode c_Md_count 150 = .ok (.aload_n 0, 1) := by decide +kernel
theorem d_Md_count_151 : decode c_Md_count 151 = .ok (.getfield 60, 3) := by decide +kernel
theorem d_Md_count_154 : decode c_Md_count 154 = .ok (.goto 16, 3) := by decide +kernel
theorem d_Md_count_157 : decode c_Md_count 157 = .ok (.iload_n 1, 1) := by decide +kernel
theorem d_Md_count_158 : decode c_Md_count 158 = .ok (.iconst 4, 1) := by decide +kernel
theorem d_Md_count_159 : decode c_Md_count 159 = .ok (.if_icmp .ne 10, 3) := by decide +kernel
theorem d_Md_count_162 : decode c_Md_count 162 = .ok (.aload_n 0, 1) := by decide +kernel
theorem d_Md_count_163 : decode c_Md_count 163 = .ok (.getfield 103, 3) := by decide +kernel
theorem d_Md_count_166 : decode c_Md_count 166 = .ok (.goto 4, 3) := by decide +kernel
theorem d_Md_count_169 : decode c_Md_count 169 = .ok (.iload_n 2, 1) := by decide +kernel
theorem d_Md_count_170 : decode c_Md_count 170 = .ok (.ireturn, 1) := by decide +kernel
