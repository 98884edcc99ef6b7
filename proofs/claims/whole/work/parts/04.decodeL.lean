theorem d_Lw_context_0 : decode c_Lw_context 0 = .ok (.aload_n 1, 1) := by decide +kernel
theorem d_Lw_context_1 : decode c_Lw_context 1 = .ok (.iconst 0, 1) := by decide +kernel
theorem d_Lw_context_2 : decode c_Lw_context 2 = .ok (.aload_n 0, 1) := by decide +kernel
theorem d_Lw_context_3 : decode c_Lw_context 3 = .ok (.invokevirtual 7, 3) := by decide +kernel
theorem d_Lw_context_6 : decode c_Lw_context 6 = .ok (.i2l, 1) := by decide +kernel
theorem d_Lw_context_7 : decode c_Lw_context 7 = .ok (.lastore, 1) := by decide +kernel
theorem d_Lw_context_8 : decode c_Lw_context 8 = .ok (.goto 6, 3) := by decide +kernel
theorem d_Lw_context_11 : decode c_Lw_context 11 = .ok (.astore_n 2, 1) := by decide +kernel
theorem d_Lw_context_12 : decode c_Lw_context 12 = .ok (.iconst 1, 1) := by decide +kernel
theorem d_Lw_context_13 : decode c_Lw_context 13 = .ok (.ireturn, 1) := by decide +kernel
theorem d_Lw_context_14 : decode c_Lw_context 14 = .ok (.iconst 0, 1) := by decide +kernel
theorem d_Lw_context_15 : decode c_Lw_context 15 = .ok (.ireturn, 1) := by decide +kernel
theorem d_Lw_relate_0 : decode c_Lw_relate 0 = .ok (.aload 4, 2) := by decide +kernel
theorem d_Lw_relate_2 : decode c_Lw_relate 2 = .ok (.iconst 0, 1) := by decide +kernel
theorem d_Lw_relate_3 : decode c_Lw_relate 3 = .ok (.aload_n 0, 1) := by decide +kernel
theorem d_Lw_relate_4 : decode c_Lw_relate 4 = .ok (.iload_n 1, 1) := by decide +kernel
theorem d_Lw_relate_5 : decode c_Lw_relate 5 = .ok (.iload_n 2, 1) := by decide +kernel
theorem d_Lw_relate_6 : decode c_Lw_relate 6 = .ok (.iload_n 3, 1) := by decide +kernel
theorem d_Lw_relate_7 : decode c_Lw_relate 7 = .ok (.invokevirtual 15, 3) := by decide +kernel
theorem d_Lw_relate_10 : decode c_Lw_relate 10 = .ok (.i2l, 1) := by decide +kernel
theorem d_Lw_relate_11 : decode c_Lw_relate 11 = .ok (.lastore, 1) := by decide +kernel
theorem d_Lw_relate_12 : decode c_Lw_relate 12 = .ok (.goto 11, 3) := by decide +kernel
theorem d_Lw_relate_15 : decode c_Lw_relate 15 = .ok (.astore 5, 2) := by decide +kernel
theorem d_Lw_relate_17 : decode c_Lw_relate 17 = .ok (.iconst 1, 1) := by decide +kernel
theorem d_Lw_relate_18 : decode c_Lw_relate 18 = .ok (.ireturn, 1) := by decide +kernel
theorem d_Lw_relate_19 : decode c_Lw_relate 19 = .ok (.astore 5, 2) := by decide +kernel
theorem d_Lw_relate_21 : decode c_Lw_relate 21 = .ok (.iconst 2, 1) := by decide +kernel
theorem d_Lw_relate_22 : decode c_Lw_relate 22 = .ok (.ireturn, 1) := by decide +kernel
theorem d_Lw_relate_23 : decode c_Lw_relate 23 = .ok (.iconst 0, 1) := by decide +kernel
theorem d_Lw_relate_24 : decode c_Lw_relate 24 = .ok (.ireturn, 1) := by decide +kernel
theorem d_Lw_ring_0 : decode c_Lw_ring 0 = .ok (.aload_n 2, 1) := by decide +kernel
theorem d_Lw_ring_1 : decode c_Lw_ring 1 = .ok (.iconst 0, 1) := by decide +kernel
theorem d_Lw_ring_2 : decode c_Lw_ring 2 = .ok (.aload_n 0, 1) := by decide +kernel
theorem d_Lw_ring_3 : decode c_Lw_ring 3 = .ok (.iload_n 1, 1) := by decide +kernel
theorem d_Lw_ring_4 : decode c_Lw_ring 4 = .ok (.invokevirtual 21, 3) := by decide +kernel
theorem d_Lw_ring_7 : decode c_Lw_ring 7 = .ok (.i2l, 1) := by decide +kernel
theorem d_Lw_ring_8 : decode c_Lw_ring 8 = .ok (.lastore, 1) := by decide +kernel
theorem d_Lw_ring_9 : decode c_Lw_ring 9 = .ok (.goto 6, 3) := by decide +kernel
theorem d_Lw_ring_12 : decode c_Lw_ring 12 = .ok (.astore_n 3, 1) := by decide +kernel
theorem d_Lw_ring_13 : decode c_Lw_ring 13 = .ok (.iconst 1, 1) := by decide +kernel
theorem d_Lw_ring_14 : decode c_Lw_ring 14 = .ok (.ireturn, 1) := by decide +kernel
theorem d_Lw_ring_15 : decode c_Lw_ring 15 = .ok (.iconst 0, 1) := by decide +kernel
theorem d_Lw_ring_16 : decode c_Lw_ring 16 = .ok (.ireturn, 1) := by decide +kernel
theorem d_Lw_undo_0 : decode c_Lw_undo 0 = .ok (.aload_n 2, 1) := by decide +kernel
theorem d_Lw_undo_1 : decode c_Lw_undo 1 = .ok (.iconst 0, 1) := by decide +kernel
theorem d_Lw_undo_2 : decode c_Lw_undo 2 = .ok (.aload_n 0, 1) := by decide +kernel
theorem d_Lw_undo_3 : decode c_Lw_undo 3 = .ok (.iload_n 1, 1) := by decide +kernel
theorem d_Lw_undo_4 : decode c_Lw_undo 4 = .ok (.invokevirtual 25, 3) := by decide +kernel
theorem d_Lw_undo_7 : decode c_Lw_undo 7 = .ok (.ifCond .eq 7, 3) := by decide +kernel
theorem d_Lw_undo_10 : decode c_Lw_undo 10 = .ok (.lconst 1, 1) := by decide +kernel
theorem d_Lw_undo_11 : decode c_Lw_undo 11 = .ok (.goto 4, 3) := by decide +kernel
theorem d_Lw_undo_14 : decode c_Lw_undo 14 = .ok (.lconst 0, 1) := by decide +kernel
theorem d_Lw_undo_15 : decode c_Lw_undo 15 = .ok (.lastore, 1) := by decide +kernel
theorem d_Lw_undo_16 : decode c_Lw_undo 16 = .ok (.goto 6, 3) := by decide +kernel
theorem d_Lw_undo_19 : decode c_Lw_undo 19 = .ok (.astore_n 3, 1) := by decide +kernel
theorem d_Lw_undo_20 : decode c_Lw_undo 20 = .ok (.iconst 1, 1) := by decide +kernel
theorem d_Lw_undo_21 : decode c_Lw_undo 21 = .ok (.ireturn, 1) := by decide +kernel
theorem d_Lw_undo_22 : decode c_Lw_undo 22 = .ok (.iconst 0, 1) := by decide +kernel
theorem d_Lw_undo_23 : decode c_Lw_undo 23 = .ok (.ireturn, 1) := by decide +kernel
theorem d_Lw_order_0 : decode c_Lw_order 0 = .ok (.aload_n 3, 1) := by decide +kernel
theorem d_Lw_order_1 : decode c_Lw_order 1 = .ok (.iconst 0, 1) := by decide +kernel
theorem d_Lw_order_2 : decode c_Lw_order 2 = .ok (.aload_n 0, 1) := by decide +kernel
theorem d_Lw_order_3 : decode c_Lw_order 3 = .ok (.iload_n 1, 1) := by decide +kernel
theorem d_Lw_order_4 : decode c_Lw_order 4 = .ok (.iload_n 2, 1) := by decide +kernel
theorem d_Lw_order_5 : decode c_Lw_order 5 = .ok (.invokevirtual 29, 3) := by decide +kernel
theorem d_Lw_order_8 : decode c_Lw_order 8 = .ok (.i2l, 1) := by decide +kernel
theorem d_Lw_order_9 : decode c_Lw_order 9 = .ok (.lastore, 1) := by decide +kernel
theorem d_Lw_order_10 : decode c_Lw_order 10 = .ok (.goto 7, 3) := by decide +kernel
theorem d_Lw_order_13 : decode c_Lw_order 13 = .ok (.astore 4, 2) := by decide +kernel
theorem d_Lw_order_15 : decode c_Lw_order 15 = .ok (.iconst 1, 1) := by decide +kernel
theorem d_Lw_order_16 : decode c_Lw_order 16 = .ok (.ireturn, 1) := by decide +kernel
theorem d_Lw_order_17 : decode c_Lw_order 17 = .ok (.iconst 0, 1) := by decide +kernel
theorem d_Lw_order_18 : decode c_Lw_order 18 = .ok (.ireturn, 1) := by decide +kernel
theorem d_Lw_link_0 : decode c_Lw_link 0 = .ok (.aload_n 3, 1) := by decide +kernel
theorem d_Lw_link_1 : decode c_Lw_link 1 = .ok (.iconst 0, 1) := by decide +kernel
theorem d_Lw_link_2 : decode c_Lw_link 2 = .ok (.aload_n 0, 1) := by decide +kernel
theorem d_Lw_link_3 : decode c_Lw_link 3 = .ok (.iload_n 1, 1) := by decide +kernel
theorem d_Lw_link_4 : decode c_Lw_link 4 = .ok (.iload_n 2, 1) := by decide +kernel
theorem d_Lw_link_5 : decode c_Lw_link 5 = .ok (.invokevirtual 33, 3) := by decide +kernel
theorem d_Lw_link_8 : decode c_Lw_link 8 = .ok (.i2l, 1) := by decide +kernel
theorem d_Lw_link_9 : decode c_Lw_link 9 = .ok (.lastore, 1) := by decide +kernel
theorem d_Lw_link_10 : decode c_Lw_link 10 = .ok (.goto 7, 3) := by decide +kernel
theorem d_Lw_link_13 : decode c_Lw_link 13 = .ok (.astore 4, 2) := by decide +kernel
theorem d_Lw_link_15 : decode c_Lw_link 15 = .ok (.iconst 1, 1) := by decide +kernel
theorem d_Lw_link_16 : decode c_Lw_link 16 = .ok (.ireturn, 1) := by decide +kernel
theorem d_Lw_link_17 : decode c_Lw_link 17 = .ok (.iconst 0, 1) := by decide +kernel
theorem d_Lw_link_18 : decode c_Lw_link 18 = .ok (.ireturn, 1) := by decide +kernel
theorem d_Lw_equal_0 : decode c_Lw_equal 0 = .ok (.aload_n 2, 1) := by decide +kernel
theorem d_Lw_equal_1 : decode c_Lw_equal 1 = .ok (.iconst 0, 1) := by decide +kernel
theorem d_Lw_equal_2 : decode c_Lw_equal 2 = .ok (.aload_n 0, 1) := by decide +kernel
theorem d_Lw_equal_3 : decode c_Lw_equal 3 = .ok (.iload_n 1, 1) := by decide +kernel
theorem d_Lw_equal_4 : decode c_Lw_equal 4 = .ok (.invokevirtual 36, 3) := by decide +kernel
theorem d_Lw_equal_7 : decode c_Lw_equal 7 = .ok (.i2l, 1) := by decide +kernel
theorem d_Lw_equal_8 : decode c_Lw_equal 8 = .ok (.lastore, 1) := by decide +kernel
theorem d_Lw_equal_9 : decode c_Lw_equal 9 = .ok (.goto 6, 3) := by decide +kernel
theorem d_Lw_equal_12 : decode c_Lw_equal 12 = .ok (.astore_n 3, 1) := by decide +kernel
theorem d_Lw_equal_13 : decode c_Lw_equal 13 = .ok (.iconst 1, 1) := by decide +kernel
theorem d_Lw_equal_14 : decode c_Lw_equal 14 = .ok (.ireturn, 1) := by decide +kernel
theorem d_Lw_equal_15 : decode c_Lw_equal 15 = .ok (.iconst 0, 1) := by decide +kernel
theorem d_Lw_equal_16 : decode c_Lw_equal 16 = .ok (.ireturn, 1) := by decide +kernel
theorem d_Lw_contemporary_0 : decode c_Lw_contemporary 0 = .ok (.aload_n 3, 1) := by decide +kernel
theorem d_Lw_contemporary_1 : decode c_Lw_contemporary 1 = .ok (.iconst 0, 1) := by decide +kernel
theorem d_Lw_contemporary_2 : decode c_Lw_contemporary 2 = .ok (.aload_n 0, 1) := by decide +kernel
theorem d_Lw_contemporary_3 : decode c_Lw_contemporary 3 = .ok (.iload_n 1, 1) := by decide +kernel
theorem d_Lw_contemporary_4 : decode c_Lw_contemporary 4 = .ok (.iload_n 2, 1) := by decide +kernel
theorem d_Lw_contemporary_5 : decode c_Lw_contemporary 5 = .ok (.invokevirtual 39, 3) := by decide +kernel
theorem d_Lw_contemporary_8 : decode c_Lw_contemporary 8 = .ok (.ifCond .eq 7, 3) := by decide +kernel
theorem d_Lw_contemporary_11 : decode c_Lw_contemporary 11 = .ok (.lconst 1, 1) := by decide +kernel
theorem d_Lw_contemporary_12 : decode c_Lw_contemporary 12 = .ok (.goto 4, 3) := by decide +kernel
theorem d_Lw_contemporary_15 : decode c_Lw_contemporary 15 = .ok (.lconst 0, 1) := by decide +kernel
theorem d_Lw_contemporary_16 : decode c_Lw_contemporary 16 = .ok (.lastore, 1) := by decide +kernel
theorem d_Lw_contemporary_17 : decode c_Lw_contemporary 17 = .ok (.goto 7, 3) := by decide +kernel
theorem d_Lw_contemporary_20 : decode c_Lw_contemporary 20 = .ok (.astore 4, 2) := by decide +kernel
theorem d_Lw_contemporary_22 : decode c_Lw_contemporary 22 = .ok (.iconst 1, 1) := by decide +kernel
theorem d_Lw_contemporary_23 : decode c_Lw_contemporary 23 = .ok (.ireturn, 1) := by decide +kernel
theorem d_Lw_contemporary_24 : decode c_Lw_contemporary 24 = .ok (.iconst 0, 1) := by decide +kernel
theorem d_Lw_contemporary_25 : decode c_Lw_contemporary 25 = .ok (.ireturn, 1) := by decide +kernel
theorem d_Lw_longest_0 : decode c_Lw_longest 0 = .ok (.aload_n 2, 1) := by decide +kernel
theorem d_Lw_longest_1 : decode c_Lw_longest 1 = .ok (.iconst 0, 1) := by decide +kernel
theorem d_Lw_longest_2 : decode c_Lw_longest 2 = .ok (.aload_n 0, 1) := by decide +kernel
theorem d_Lw_longest_3 : decode c_Lw_longest 3 = .ok (.iload_n 1, 1) := by decide +kernel
theorem d_Lw_longest_4 : decode c_Lw_longest 4 = .ok (.invokevirtual 43, 3) := by decide +kernel
theorem d_Lw_longest_7 : decode c_Lw_longest 7 = .ok (.i2l, 1) := by decide +kernel
theorem d_Lw_longest_8 : decode c_Lw_longest 8 = .ok (.lastore, 1) := by decide +kernel
theorem d_Lw_longest_9 : decode c_Lw_longest 9 = .ok (.goto 6, 3) := by decide +kernel
theorem d_Lw_longest_12 : decode c_Lw_longest 12 = .ok (.astore_n 3, 1) := by decide +kernel
theorem d_Lw_longest_13 : decode c_Lw_longest 13 = .ok (.iconst 1, 1) := by decide +kernel
theorem d_Lw_longest_14 : decode c_Lw_longest 14 = .ok (.ireturn, 1) := by decide +kernel
theorem d_Lw_longest_15 : decode c_Lw_longest 15 = .ok (.iconst 0, 1) := by decide +kernel
theorem d_Lw_longest_16 : decode c_Lw_longest 16 = .ok (.ireturn, 1) := by decide +kernel
theorem d_Lw_group_0 : decode c_Lw_group 0 = .ok (.aload_n 1, 1) := by decide +kernel
theorem d_Lw_group_1 : decode c_Lw_group 1 = .ok (.iconst 0, 1) := by decide +kernel
theorem d_Lw_group_2 : decode c_Lw_group 2 = .ok (.aload_n 0, 1) := by decide +kernel
theorem d_Lw_group_3 : decode c_Lw_group 3 = .ok (.invokevirtual 46, 3) := by decide +kernel
theorem d_Lw_group_6 : decode c_Lw_group 6 = .ok (.i2l, 1) := by decide +kernel
theorem d_Lw_group_7 : decode c_Lw_group 7 = .ok (.lastore, 1) := by decide +kernel
theorem d_Lw_group_8 : decode c_Lw_group 8 = .ok (.goto 6, 3) := by decide +kernel
theorem d_Lw_group_11 : decode c_Lw_group 11 = .ok (.astore_n 2, 1) := by decide +kernel
theorem d_Lw_group_12 : decode c_Lw_group 12 = .ok (.iconst 1, 1) := by decide +kernel
theorem d_Lw_group_13 : decode c_Lw_group 13 = .ok (.ireturn, 1) := by decide +kernel
theorem d_Lw_group_14 : decode c_Lw_group 14 = .ok (.iconst 0, 1) := by decide +kernel
theorem d_Lw_group_15 : decode c_Lw_group 15 = .ok (.ireturn, 1) := by decide +kernel
theorem d_Lw_into_0 : decode c_Lw_into 0 = .ok (.aload_n 3, 1) := by decide +kernel
theorem d_Lw_into_1 : decode c_Lw_into 1 = .ok (.iconst 0, 1) := by decide +kernel
theorem d_Lw_into_2 : decode c_Lw_into 2 = .ok (.aload_n 0, 1) := by decide +kernel
theorem d_Lw_into_3 : decode c_Lw_into 3 = .ok (.iload_n 1, 1) := by decide +kernel
theorem d_Lw_into_4 : decode c_Lw_into 4 = .ok (.iload_n 2, 1) := by decide +kernel
theorem d_Lw_into_5 : decode c_Lw_into 5 = .ok (.invokevirtual 49, 3) := by decide +kernel
theorem d_Lw_into_8 : decode c_Lw_into 8 = .ok (.ifCond .eq 7, 3) := by decide +kernel
theorem d_Lw_into_11 : decode c_Lw_into 11 = .ok (.lconst 1, 1) := by decide +kernel
theorem d_Lw_into_12 : decode c_Lw_into 12 = .ok (.goto 4, 3) := by decide +kernel
theorem d_Lw_into_15 : decode c_Lw_into 15 = .ok (.lconst 0, 1) := by decide +kernel
theorem d_Lw_into_16 : decode c_Lw_into 16 = .ok (.lastore, 1) := by decide +kernel
theorem d_Lw_into_17 : decode c_Lw_into 17 = .ok (.goto 7, 3) := by decide +kernel
theorem d_Lw_into_20 : decode c_Lw_into 20 = .ok (.astore 4, 2) := by decide +kernel
theorem d_Lw_into_22 : decode c_Lw_into 22 = .ok (.iconst 1, 1) := by decide +kernel
theorem d_Lw_into_23 : decode c_Lw_into 23 = .ok (.ireturn, 1) := by decide +kernel
theorem d_Lw_into_24 : decode c_Lw_into 24 = .ok (.iconst 0, 1) := by decide +kernel
theorem d_Lw_into_25 : decode c_Lw_into 25 = .ok (.ireturn, 1) := by decide +kernel
theorem d_Lw_groupRing_0 : decode c_Lw_groupRing 0 = .ok (.aload_n 2, 1) := by decide +kernel
theorem d_Lw_groupRing_1 : decode c_Lw_groupRing 1 = .ok (.iconst 0, 1) := by decide +kernel
theorem d_Lw_groupRing_2 : decode c_Lw_groupRing 2 = .ok (.aload_n 0, 1) := by decide +kernel
theorem d_Lw_groupRing_3 : decode c_Lw_groupRing 3 = .ok (.iload_n 1, 1) := by decide +kernel
theorem d_Lw_groupRing_4 : decode c_Lw_groupRing 4 = .ok (.invokevirtual 52, 3) := by decide +kernel
theorem d_Lw_groupRing_7 : decode c_Lw_groupRing 7 = .ok (.i2l, 1) := by decide +kernel
theorem d_Lw_groupRing_8 : decode c_Lw_groupRing 8 = .ok (.lastore, 1) := by decide +kernel
theorem d_Lw_groupRing_9 : decode c_Lw_groupRing 9 = .ok (.goto 6, 3) := by decide +kernel
theorem d_Lw_groupRing_12 : decode c_Lw_groupRing 12 = .ok (.astore_n 3, 1) := by decide +kernel
theorem d_Lw_groupRing_13 : decode c_Lw_groupRing 13 = .ok (.iconst 1, 1) := by decide +kernel
theorem d_Lw_groupRing_14 : decode c_Lw_groupRing 14 = .ok (.ireturn, 1) := by decide +kernel
theorem d_Lw_groupRing_15 : decode c_Lw_groupRing 15 = .ok (.iconst 0, 1) := by decide +kernel
theorem d_Lw_groupRing_16 : decode c_Lw_groupRing 16 = .ok (.ireturn, 1) := by decide +kernel
theorem d_Lw_groupOf_0 : decode c_Lw_groupOf 0 = .ok (.aload_n 2, 1) := by decide +kernel
theorem d_Lw_groupOf_1 : decode c_Lw_groupOf 1 = .ok (.iconst 0, 1) := by decide +kernel
theorem d_Lw_groupOf_2 : decode c_Lw_groupOf 2 = .ok (.aload_n 0, 1) := by decide +kernel
theorem d_Lw_groupOf_3 : decode c_Lw_groupOf 3 = .ok (.iload_n 1, 1) := by decide +kernel
theorem d_Lw_groupOf_4 : decode c_Lw_groupOf 4 = .ok (.invokevirtual 55, 3) := by decide +kernel
theorem d_Lw_groupOf_7 : decode c_Lw_groupOf 7 = .ok (.i2l, 1) := by decide +kernel
theorem d_Lw_groupOf_8 : decode c_Lw_groupOf 8 = .ok (.lastore, 1) := by decide +kernel
theorem d_Lw_groupOf_9 : decode c_Lw_groupOf 9 = .ok (.goto 6, 3) := by decide +kernel
theorem d_Lw_groupOf_12 : decode c_Lw_groupOf 12 = .ok (.astore_n 3, 1) := by decide +kernel
theorem d_Lw_groupOf_13 : decode c_Lw_groupOf 13 = .ok (.iconst 1, 1) := by decide +kernel
theorem d_Lw_groupOf_14 : decode c_Lw_groupOf 14 = .ok (.ireturn, 1) := by decide +kernel
theorem d_Lw_groupOf_15 : decode c_Lw_groupOf 15 = .ok (.iconst 0, 1) := by decide +kernel
theorem d_Lw_groupOf_16 : decode c_Lw_groupOf 16 = .ok (.ireturn, 1) := by decide +kernel
theorem d_Lw_version_0 : decode c_Lw_version 0 = .ok (.aload_n 1, 1) := by decide +kernel
theorem d_Lw_version_1 : decode c_Lw_version 1 = .ok (.iconst 0, 1) := by decide +kernel
theorem d_Lw_version_2 : decode c_Lw_version 2 = .ok (.aload_n 0, 1) := by decide +kernel
theorem d_Lw_version_3 : decode c_Lw_version 3 = .ok (.invokevirtual 58, 3) := by decide +kernel
theorem d_Lw_version_6 : decode c_Lw_version 6 = .ok (.i2l, 1) := by decide +kernel
theorem d_Lw_version_7 : decode c_Lw_version 7 = .ok (.lastore, 1) := by decide +kernel
theorem d_Lw_version_8 : decode c_Lw_version 8 = .ok (.goto 6, 3) := by decide +kernel
theorem d_Lw_version_11 : decode c_Lw_version 11 = .ok (.astore_n 2, 1) := by decide +kernel
theorem d_Lw_version_12 : decode c_Lw_version 12 = .ok (.iconst 1, 1) := by decide +kernel
theorem d_Lw_version_13 : decode c_Lw_version 13 = .ok (.ireturn, 1) := by decide +kernel
theorem d_Lw_version_14 : decode c_Lw_version 14 = .ok (.iconst 0, 1) := by decide +kernel
theorem d_Lw_version_15 : decode c_Lw_version 15 = .ok (.ireturn, 1) := by decide +kernel
theorem d_Lw_differs_0 : decode c_Lw_differs 0 = .ok (.aload 4, 2) := by decide +kernel
theorem d_Lw_differs_2 : decode c_Lw_differs 2 = .ok (.iconst 0, 1) := by decide +kernel
theorem d_Lw_differs_3 : decode c_Lw_differs 3 = .ok (.aload_n 0, 1) := by decide +kernel
theorem d_Lw_differs_4 : decode c_Lw_differs 4 = .ok (.iload_n 1, 1) := by decide +kernel
theorem d_Lw_differs_5 : decode c_Lw_differs 5 = .ok (.iload_n 2, 1) := by decide +kernel
theorem d_Lw_differs_6 : decode c_Lw_differs 6 = .ok (.iload_n 3, 1) := by decide +kernel
theorem d_Lw_differs_7 : decode c_Lw_differs 7 = .ok (.invokevirtual 61, 3) := by decide +kernel
theorem d_Lw_differs_10 : decode c_Lw_differs 10 = .ok (.i2l, 1) := by decide +kernel
theorem d_Lw_differs_11 : decode c_Lw_differs 11 = .ok (.lastore, 1) := by decide +kernel
theorem d_Lw_differs_12 : decode c_Lw_differs 12 = .ok (.goto 7, 3) := by decide +kernel
theorem d_Lw_differs_15 : decode c_Lw_differs 15 = .ok (.astore 5, 2) := by decide +kernel
theorem d_Lw_differs_17 : decode c_Lw_differs 17 = .ok (.iconst 1, 1) := by decide +kernel
theorem d_Lw_differs_18 : decode c_Lw_differs 18 = .ok (.ireturn, 1) := by decide +kernel
theorem d_Lw_differs_19 : decode c_Lw_differs 19 = .ok (.iconst 0, 1) := by decide +kernel
theorem d_Lw_differs_20 : decode c_Lw_differs 20 = .ok (.ireturn, 1) := by decide +kernel
theorem d_Lw_count_0 : decode c_Lw_count 0 = .ok (.aload_n 2, 1) := by decide +kernel
theorem d_Lw_count_1 : decode c_Lw_count 1 = .ok (.iconst 0, 1) := by decide +kernel
theorem d_Lw_count_2 : decode c_Lw_count 2 = .ok (.aload_n 0, 1) := by decide +kernel
theorem d_Lw_count_3 : decode c_Lw_count 3 = .ok (.iload_n 1, 1) := by decide +kernel
theorem d_Lw_count_4 : decode c_Lw_count 4 = .ok (.invokevirtual 64, 3) := by decide +kernel
theorem d_Lw_count_7 : decode c_Lw_count 7 = .ok (.i2l, 1) := by decide +kernel
theorem d_Lw_count_8 : decode c_Lw_count 8 = .ok (.lastore, 1) := by decide +kernel
theorem d_Lw_count_9 : decode c_Lw_count 9 = .ok (.goto 6, 3) := by decide +kernel
theorem d_Lw_count_12 : decode c_Lw_count 12 = .ok (.astore_n 3, 1) := by decide +kernel
theorem d_Lw_count_13 : decode c_Lw_count 13 = .ok (.iconst 1, 1) := by decide +kernel
theorem d_Lw_count_14 : decode c_Lw_count 14 = .ok (.ireturn, 1) := by decide +kernel
theorem d_Lw_count_15 : decode c_Lw_count 15 = .ok (.iconst 0, 1) := by decide +kernel
theorem d_Lw_count_16 : decode c_Lw_count 16 = .ok (.ireturn, 1) := by decide +kernel
