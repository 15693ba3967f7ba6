theorem dX0_init_0 : decode cX0_init 0 = .ok (.aload_n 0, 1) := by decide +kernel
theorem dX0_init_1 : decode cX0_init 1 = .ok (.invokespecial 3, 3) := by decide +kernel
theorem dX0_init_4 : decode cX0_init 4 = .ok (.aload_n 0, 1) := by decide +kernel
theorem dX0_init_5 : decode cX0_init 5 = .ok (.bipush 9, 2) := by decide +kernel
theorem dX0_init_7 : decode cX0_init 7 = .ok (.newarray .int, 2) := by decide +kernel
theorem dX0_init_9 : decode cX0_init 9 = .ok (.putfield 9, 3) := by decide +kernel
theorem dX0_init_12 : decode cX0_init 12 = .ok (.aload_n 0, 1) := by decide +kernel
theorem dX0_init_13 : decode cX0_init 13 = .ok (.iconst (-1), 1) := by decide +kernel
theorem dX0_init_14 : decode cX0_init 14 = .ok (.putfield 15, 3) := by decide +kernel
theorem dX0_init_17 : decode cX0_init 17 = .ok (.return_, 1) := by decide +kernel
theorem dX0_change_0 : decode cX0_change 0 = .ok (.aload_n 0, 1) := by decide +kernel
theorem dX0_change_1 : decode cX0_change 1 = .ok (.getfield 9, 3) := by decide +kernel
theorem dX0_change_4 : decode cX0_change 4 = .ok (.iload_n 1, 1) := by decide +kernel
theorem dX0_change_5 : decode cX0_change 5 = .ok (.iload_n 2, 1) := by decide +kernel
theorem dX0_change_6 : decode cX0_change 6 = .ok (.iastore, 1) := by decide +kernel
theorem dX0_change_7 : decode cX0_change 7 = .ok (.aload_n 0, 1) := by decide +kernel
theorem dX0_change_8 : decode cX0_change 8 = .ok (.getfield 9, 3) := by decide +kernel
theorem dX0_change_11 : decode cX0_change 11 = .ok (.bipush 8, 2) := by decide +kernel
theorem dX0_change_13 : decode cX0_change 13 = .ok (.iload_n 3, 1) := by decide +kernel
theorem dX0_change_14 : decode cX0_change 14 = .ok (.iastore, 1) := by decide +kernel
theorem dX0_change_15 : decode cX0_change 15 = .ok (.aload_n 0, 1) := by decide +kernel
theorem dX0_change_16 : decode cX0_change 16 = .ok (.iconst 1, 1) := by decide +kernel
theorem dX0_change_17 : decode cX0_change 17 = .ok (.putfield 19, 3) := by decide +kernel
theorem dX0_change_20 : decode cX0_change 20 = .ok (.return_, 1) := by decide +kernel
theorem dX0_mayBeTaken_0 : decode cX0_mayBeTaken 0 = .ok (.aload_n 0, 1) := by decide +kernel
theorem dX0_mayBeTaken_1 : decode cX0_mayBeTaken 1 = .ok (.getfield 23, 3) := by decide +kernel
theorem dX0_mayBeTaken_4 : decode cX0_mayBeTaken 4 = .ok (.ifCond .ne 25, 3) := by decide +kernel
theorem dX0_mayBeTaken_7 : decode cX0_mayBeTaken 7 = .ok (.aload_n 0, 1) := by decide +kernel
theorem dX0_mayBeTaken_8 : decode cX0_mayBeTaken 8 = .ok (.getfield 19, 3) := by decide +kernel
theorem dX0_mayBeTaken_11 : decode cX0_mayBeTaken 11 = .ok (.ifCond .eq 14, 3) := by decide +kernel
theorem dX0_mayBeTaken_14 : decode cX0_mayBeTaken 14 = .ok (.aload_n 0, 1) := by decide +kernel
theorem dX0_mayBeTaken_15 : decode cX0_mayBeTaken 15 = .ok (.getfield 9, 3) := by decide +kernel
theorem dX0_mayBeTaken_18 : decode cX0_mayBeTaken 18 = .ok (.bipush 8, 2) := by decide +kernel
theorem dX0_mayBeTaken_20 : decode cX0_mayBeTaken 20 = .ok (.iaload, 1) := by decide +kernel
theorem dX0_mayBeTaken_21 : decode cX0_mayBeTaken 21 = .ok (.iload_n 1, 1) := by decide +kernel
theorem dX0_mayBeTaken_22 : decode cX0_mayBeTaken 22 = .ok (.if_icmp .gt 7, 3) := by decide +kernel
theorem dX0_mayBeTaken_25 : decode cX0_mayBeTaken 25 = .ok (.iconst 1, 1) := by decide +kernel
theorem dX0_mayBeTaken_26 : decode cX0_mayBeTaken 26 = .ok (.goto 4, 3) := by decide +kernel
theorem dX0_mayBeTaken_29 : decode cX0_mayBeTaken 29 = .ok (.iconst 0, 1) := by decide +kernel
theorem dX0_mayBeTaken_30 : decode cX0_mayBeTaken 30 = .ok (.ireturn, 1) := by decide +kernel
theorem dX0_makeEmpty_0 : decode cX0_makeEmpty 0 = .ok (.aload_n 0, 1) := by decide +kernel
theorem dX0_makeEmpty_1 : decode cX0_makeEmpty 1 = .ok (.getfield 9, 3) := by decide +kernel
theorem dX0_makeEmpty_4 : decode cX0_makeEmpty 4 = .ok (.iconst 0, 1) := by decide +kernel
theorem dX0_makeEmpty_5 : decode cX0_makeEmpty 5 = .ok (.invokestatic 26, 3) := by decide +kernel
theorem dX0_makeEmpty_8 : decode cX0_makeEmpty 8 = .ok (.aload_n 0, 1) := by decide +kernel
theorem dX0_makeEmpty_9 : decode cX0_makeEmpty 9 = .ok (.iconst (-1), 1) := by decide +kernel
theorem dX0_makeEmpty_10 : decode cX0_makeEmpty 10 = .ok (.putfield 15, 3) := by decide +kernel
theorem dX0_makeEmpty_13 : decode cX0_makeEmpty 13 = .ok (.aload_n 0, 1) := by decide +kernel
theorem dX0_makeEmpty_14 : decode cX0_makeEmpty 14 = .ok (.iconst 0, 1) := by decide +kernel
theorem dX0_makeEmpty_15 : decode cX0_makeEmpty 15 = .ok (.putfield 23, 3) := by decide +kernel
theorem dX0_makeEmpty_18 : decode cX0_makeEmpty 18 = .ok (.aload_n 0, 1) := by decide +kernel
theorem dX0_makeEmpty_19 : decode cX0_makeEmpty 19 = .ok (.iconst 0, 1) := by decide +kernel
theorem dX0_makeEmpty_20 : decode cX0_makeEmpty 20 = .ok (.putfield 19, 3) := by decide +kernel
theorem dX0_makeEmpty_23 : decode cX0_makeEmpty 23 = .ok (.aload_n 0, 1) := by decide +kernel
theorem dX0_makeEmpty_24 : decode cX0_makeEmpty 24 = .ok (.iconst 0, 1) := by decide +kernel
theorem dX0_makeEmpty_25 : decode cX0_makeEmpty 25 = .ok (.putfield 32, 3) := by decide +kernel
theorem dX0_makeEmpty_28 : decode cX0_makeEmpty 28 = .ok (.return_, 1) := by decide +kernel
theorem dX1_init_0 : decode cX1_init 0 = .ok (.aload_n 0, 1) := by decide +kernel
theorem dX1_init_1 : decode cX1_init 1 = .ok (.invokespecial 3, 3) := by decide +kernel
theorem dX1_init_4 : decode cX1_init 4 = .ok (.aload_n 0, 1) := by decide +kernel
theorem dX1_init_5 : decode cX1_init 5 = .ok (.sipush 2807, 3) := by decide +kernel
theorem dX1_init_8 : decode cX1_init 8 = .ok (.newarray .int, 2) := by decide +kernel
theorem dX1_init_10 : decode cX1_init 10 = .ok (.putfield 9, 3) := by decide +kernel
theorem dX1_init_13 : decode cX1_init 13 = .ok (.aload_n 0, 1) := by decide +kernel
theorem dX1_init_14 : decode cX1_init 14 = .ok (.sipush 401, 3) := by decide +kernel
theorem dX1_init_17 : decode cX1_init 17 = .ok (.newarray .boolean, 2) := by decide +kernel
theorem dX1_init_19 : decode cX1_init 19 = .ok (.putfield 15, 3) := by decide +kernel
theorem dX1_init_22 : decode cX1_init 22 = .ok (.aload_n 0, 1) := by decide +kernel
theorem dX1_init_23 : decode cX1_init 23 = .ok (.bipush 8, 2) := by decide +kernel
theorem dX1_init_25 : decode cX1_init 25 = .ok (.newarray .int, 2) := by decide +kernel
theorem dX1_init_27 : decode cX1_init 27 = .ok (.putfield 19, 3) := by decide +kernel
theorem dX1_init_30 : decode cX1_init 30 = .ok (.aload_n 0, 1) := by decide +kernel
theorem dX1_init_31 : decode cX1_init 31 = .ok (.bipush 8, 2) := by decide +kernel
theorem dX1_init_33 : decode cX1_init 33 = .ok (.newarray .int, 2) := by decide +kernel
theorem dX1_init_35 : decode cX1_init 35 = .ok (.putfield 22, 3) := by decide +kernel
theorem dX1_init_38 : decode cX1_init 38 = .ok (.aload_n 0, 1) := by decide +kernel
theorem dX1_init_39 : decode cX1_init 39 = .ok (.bipush 8, 2) := by decide +kernel
theorem dX1_init_41 : decode cX1_init 41 = .ok (.newarray .int, 2) := by decide +kernel
theorem dX1_init_43 : decode cX1_init 43 = .ok (.putfield 25, 3) := by decide +kernel
theorem dX1_init_46 : decode cX1_init 46 = .ok (.return_, 1) := by decide +kernel
theorem dX1_value_0 : decode cX1_value 0 = .ok (.aload_n 0, 1) := by decide +kernel
theorem dX1_value_1 : decode cX1_value 1 = .ok (.getfield 9, 3) := by decide +kernel
theorem dX1_value_4 : decode cX1_value 4 = .ok (.iload_n 1, 1) := by decide +kernel
theorem dX1_value_5 : decode cX1_value 5 = .ok (.bipush 7, 2) := by decide +kernel
theorem dX1_value_7 : decode cX1_value 7 = .ok (.imul, 1) := by decide +kernel
theorem dX1_value_8 : decode cX1_value 8 = .ok (.iload_n 2, 1) := by decide +kernel
theorem dX1_value_9 : decode cX1_value 9 = .ok (.iadd, 1) := by decide +kernel
theorem dX1_value_10 : decode cX1_value 10 = .ok (.iaload, 1) := by decide +kernel
theorem dX1_value_11 : decode cX1_value 11 = .ok (.ireturn, 1) := by decide +kernel
theorem dX1_changesPage_0 : decode cX1_changesPage 0 = .ok (.aload_n 0, 1) := by decide +kernel
theorem dX1_changesPage_1 : decode cX1_changesPage 1 = .ok (.iload_n 1, 1) := by decide +kernel
theorem dX1_changesPage_2 : decode cX1_changesPage 2 = .ok (.iconst 0, 1) := by decide +kernel
theorem dX1_changesPage_3 : decode cX1_changesPage 3 = .ok (.invokevirtual 28, 3) := by decide +kernel
theorem dX1_changesPage_6 : decode cX1_changesPage 6 = .ok (.istore_n 2, 1) := by decide +kernel
theorem dX1_changesPage_7 : decode cX1_changesPage 7 = .ok (.iload_n 2, 1) := by decide +kernel
theorem dX1_changesPage_8 : decode cX1_changesPage 8 = .ok (.ifCond .eq 8, 3) := by decide +kernel
theorem dX1_changesPage_11 : decode cX1_changesPage 11 = .ok (.iload_n 2, 1) := by decide +kernel
theorem dX1_changesPage_12 : decode cX1_changesPage 12 = .ok (.iconst 1, 1) := by decide +kernel
theorem dX1_changesPage_13 : decode cX1_changesPage 13 = .ok (.if_icmp .ne 7, 3) := by decide +kernel
theorem dX1_changesPage_16 : decode cX1_changesPage 16 = .ok (.iconst 1, 1) := by decide +kernel
theorem dX1_changesPage_17 : decode cX1_changesPage 17 = .ok (.goto 4, 3) := by decide +kernel
theorem dX1_changesPage_20 : decode cX1_changesPage 20 = .ok (.iconst 0, 1) := by decide +kernel
theorem dX1_changesPage_21 : decode cX1_changesPage 21 = .ok (.ireturn, 1) := by decide +kernel
theorem dX1_isOpen_0 : decode cX1_isOpen 0 = .ok (.aload_n 0, 1) := by decide +kernel
theorem dX1_isOpen_1 : decode cX1_isOpen 1 = .ok (.iload_n 1, 1) := by decide +kernel
theorem dX1_isOpen_2 : decode cX1_isOpen 2 = .ok (.iconst 0, 1) := by decide +kernel
theorem dX1_isOpen_3 : decode cX1_isOpen 3 = .ok (.invokevirtual 28, 3) := by decide +kernel
theorem dX1_isOpen_6 : decode cX1_isOpen 6 = .ok (.ifCond .ne 31, 3) := by decide +kernel
theorem dX1_isOpen_9 : decode cX1_isOpen 9 = .ok (.aload_n 0, 1) := by decide +kernel
theorem dX1_isOpen_10 : decode cX1_isOpen 10 = .ok (.getfield 15, 3) := by decide +kernel
theorem dX1_isOpen_13 : decode cX1_isOpen 13 = .ok (.iload_n 1, 1) := by decide +kernel
theorem dX1_isOpen_14 : decode cX1_isOpen 14 = .ok (.baload, 1) := by decide +kernel
theorem dX1_isOpen_15 : decode cX1_isOpen 15 = .ok (.ifCond .ne 22, 3) := by decide +kernel
theorem dX1_isOpen_18 : decode cX1_isOpen 18 = .ok (.iload_n 1, 1) := by decide +kernel
theorem dX1_isOpen_19 : decode cX1_isOpen 19 = .ok (.aload_n 0, 1) := by decide +kernel
theorem dX1_isOpen_20 : decode cX1_isOpen 20 = .ok (.getfield 22, 3) := by decide +kernel
theorem dX1_isOpen_23 : decode cX1_isOpen 23 = .ok (.aload_n 0, 1) := by decide +kernel
theorem dX1_isOpen_24 : decode cX1_isOpen 24 = .ok (.iload_n 1, 1) := by decide +kernel
theorem dX1_isOpen_25 : decode cX1_isOpen 25 = .ok (.iconst 1, 1) := by decide +kernel
theorem dX1_isOpen_26 : decode cX1_isOpen 26 = .ok (.invokevirtual 28, 3) := by decide +kernel
theorem dX1_isOpen_29 : decode cX1_isOpen 29 = .ok (.iaload, 1) := by decide +kernel
theorem dX1_isOpen_30 : decode cX1_isOpen 30 = .ok (.if_icmp .le 7, 3) := by decide +kernel
theorem dX1_isOpen_33 : decode cX1_isOpen 33 = .ok (.iconst 1, 1) := by decide +kernel
theorem dX1_isOpen_34 : decode cX1_isOpen 34 = .ok (.goto 4, 3) := by decide +kernel
theorem dX1_isOpen_37 : decode cX1_isOpen 37 = .ok (.iconst 0, 1) := by decide +kernel
theorem dX1_isOpen_38 : decode cX1_isOpen 38 = .ok (.ireturn, 1) := by decide +kernel
theorem dX1_isUnended_0 : decode cX1_isUnended 0 = .ok (.aload_n 0, 1) := by decide +kernel
theorem dX1_isUnended_1 : decode cX1_isUnended 1 = .ok (.getfield 19, 3) := by decide +kernel
theorem dX1_isUnended_4 : decode cX1_isUnended 4 = .ok (.iload_n 1, 1) := by decide +kernel
theorem dX1_isUnended_5 : decode cX1_isUnended 5 = .ok (.iaload, 1) := by decide +kernel
theorem dX1_isUnended_6 : decode cX1_isUnended 6 = .ok (.aload_n 0, 1) := by decide +kernel
theorem dX1_isUnended_7 : decode cX1_isUnended 7 = .ok (.getfield 22, 3) := by decide +kernel
theorem dX1_isUnended_10 : decode cX1_isUnended 10 = .ok (.iload_n 1, 1) := by decide +kernel
theorem dX1_isUnended_11 : decode cX1_isUnended 11 = .ok (.iaload, 1) := by decide +kernel
theorem dX1_isUnended_12 : decode cX1_isUnended 12 = .ok (.if_icmp .le 7, 3) := by decide +kernel
theorem dX1_isUnended_15 : decode cX1_isUnended 15 = .ok (.iconst 1, 1) := by decide +kernel
theorem dX1_isUnended_16 : decode cX1_isUnended 16 = .ok (.goto 4, 3) := by decide +kernel
theorem dX1_isUnended_19 : decode cX1_isUnended 19 = .ok (.iconst 0, 1) := by decide +kernel
theorem dX1_isUnended_20 : decode cX1_isUnended 20 = .ok (.ireturn, 1) := by decide +kernel
theorem dX1_hasRoomFor_0 : decode cX1_hasRoomFor 0 = .ok (.aload_n 0, 1) := by decide +kernel
theorem dX1_hasRoomFor_1 : decode cX1_hasRoomFor 1 = .ok (.getfield 32, 3) := by decide +kernel
theorem dX1_hasRoomFor_4 : decode cX1_hasRoomFor 4 = .ok (.iload_n 1, 1) := by decide +kernel
theorem dX1_hasRoomFor_5 : decode cX1_hasRoomFor 5 = .ok (.iadd, 1) := by decide +kernel
theorem dX1_hasRoomFor_6 : decode cX1_hasRoomFor 6 = .ok (.istore_n 2, 1) := by decide +kernel
theorem dX1_hasRoomFor_7 : decode cX1_hasRoomFor 7 = .ok (.iconst 0, 1) := by decide +kernel
theorem dX1_hasRoomFor_8 : decode cX1_hasRoomFor 8 = .ok (.istore_n 3, 1) := by decide +kernel
theorem dX1_hasRoomFor_9 : decode cX1_hasRoomFor 9 = .ok (.iload_n 3, 1) := by decide +kernel
theorem dX1_hasRoomFor_10 : decode cX1_hasRoomFor 10 = .ok (.bipush 8, 2) := by decide +kernel
theorem dX1_hasRoomFor_12 : decode cX1_hasRoomFor 12 = .ok (.if_icmp .ge 18, 3) := by decide +kernel
theorem dX1_hasRoomFor_15 : decode cX1_hasRoomFor 15 = .ok (.iload_n 2, 1) := by decide +kernel
theorem dX1_hasRoomFor_16 : decode cX1_hasRoomFor 16 = .ok (.aload_n 0, 1) := by decide +kernel
theorem dX1_hasRoomFor_17 : decode cX1_hasRoomFor 17 = .ok (.getfield 25, 3) := by decide +kernel
theorem dX1_hasRoomFor_20 : decode cX1_hasRoomFor 20 = .ok (.iload_n 3, 1) := by decide +kernel
theorem dX1_hasRoomFor_21 : decode cX1_hasRoomFor 21 = .ok (.iaload, 1) := by decide +kernel
theorem dX1_hasRoomFor_22 : decode cX1_hasRoomFor 22 = .ok (.iadd, 1) := by decide +kernel
theorem dX1_hasRoomFor_23 : decode cX1_hasRoomFor 23 = .ok (.istore_n 2, 1) := by decide +kernel
theorem dX1_hasRoomFor_24 : decode cX1_hasRoomFor 24 = .ok (.iinc 3 1, 3) := by decide +kernel
theorem dX1_hasRoomFor_27 : decode cX1_hasRoomFor 27 = .ok (.goto (-18), 3) := by decide +kernel
theorem dX1_hasRoomFor_30 : decode cX1_hasRoomFor 30 = .ok (.iload_n 2, 1) := by decide +kernel
theorem dX1_hasRoomFor_31 : decode cX1_hasRoomFor 31 = .ok (.sipush 400, 3) := by decide +kernel
theorem dX1_hasRoomFor_34 : decode cX1_hasRoomFor 34 = .ok (.if_icmp .gt 7, 3) := by decide +kernel
theorem dX1_hasRoomFor_37 : decode cX1_hasRoomFor 37 = .ok (.iconst 1, 1) := by decide +kernel
theorem dX1_hasRoomFor_38 : decode cX1_hasRoomFor 38 = .ok (.goto 4, 3) := by decide +kernel
theorem dX1_hasRoomFor_41 : decode cX1_hasRoomFor 41 = .ok (.iconst 0, 1) := by decide +kernel
theorem dX1_hasRoomFor_42 : decode cX1_hasRoomFor 42 = .ok (.ireturn, 1) := by decide +kernel
theorem dX1_appendUndo_0 : decode cX1_appendUndo 0 = .ok (.aload_n 0, 1) := by decide +kernel
theorem dX1_appendUndo_1 : decode cX1_appendUndo 1 = .ok (.iconst 1, 1) := by decide +kernel
theorem dX1_appendUndo_2 : decode cX1_appendUndo 2 = .ok (.aload_n 0, 1) := by decide +kernel
theorem dX1_appendUndo_3 : decode cX1_appendUndo 3 = .ok (.iload_n 1, 1) := by decide +kernel
theorem dX1_appendUndo_4 : decode cX1_appendUndo 4 = .ok (.iconst 1, 1) := by decide +kernel
theorem dX1_appendUndo_5 : decode cX1_appendUndo 5 = .ok (.invokevirtual 28, 3) := by decide +kernel
theorem dX1_appendUndo_8 : decode cX1_appendUndo 8 = .ok (.aload_n 0, 1) := by decide +kernel
theorem dX1_appendUndo_9 : decode cX1_appendUndo 9 = .ok (.iload_n 1, 1) := by decide +kernel
theorem dX1_appendUndo_10 : decode cX1_appendUndo 10 = .ok (.iconst 2, 1) := by decide +kernel
theorem dX1_appendUndo_11 : decode cX1_appendUndo 11 = .ok (.invokevirtual 28, 3) := by decide +kernel
theorem dX1_appendUndo_14 : decode cX1_appendUndo 14 = .ok (.aload_n 0, 1) := by decide +kernel
theorem dX1_appendUndo_15 : decode cX1_appendUndo 15 = .ok (.iload_n 1, 1) := by decide +kernel
theorem dX1_appendUndo_16 : decode cX1_appendUndo 16 = .ok (.iconst 3, 1) := by decide +kernel
theorem dX1_appendUndo_17 : decode cX1_appendUndo 17 = .ok (.invokevirtual 28, 3) := by decide +kernel
theorem dX1_appendUndo_20 : decode cX1_appendUndo 20 = .ok (.iload_n 2, 1) := by decide +kernel
theorem dX1_appendUndo_21 : decode cX1_appendUndo 21 = .ok (.aload_n 0, 1) := by decide +kernel
theorem dX1_appendUndo_22 : decode cX1_appendUndo 22 = .ok (.iload_n 1, 1) := by decide +kernel
theorem dX1_appendUndo_23 : decode cX1_appendUndo 23 = .ok (.iconst 4, 1) := by decide +kernel
theorem dX1_appendUndo_24 : decode cX1_appendUndo 24 = .ok (.invokevirtual 28, 3) := by decide +kernel
theorem dX1_appendUndo_27 : decode cX1_appendUndo 27 = .ok (.iload_n 1, 1) := by decide +kernel
theorem dX1_appendUndo_28 : decode cX1_appendUndo 28 = .ok (.invokevirtual 36, 3) := by decide +kernel
theorem dX1_appendUndo_31 : decode cX1_appendUndo 31 = .ok (.ireturn, 1) := by decide +kernel
theorem dX1_appendLast_0 : decode cX1_appendLast 0 = .ok (.aload_n 0, 1) := by decide +kernel
theorem dX1_appendLast_1 : decode cX1_appendLast 1 = .ok (.iload_n 1, 1) := by decide +kernel
theorem dX1_appendLast_2 : decode cX1_appendLast 2 = .ok (.iload_n 2, 1) := by decide +kernel
theorem dX1_appendLast_3 : decode cX1_appendLast 3 = .ok (.iconst (-1), 1) := by decide +kernel
theorem dX1_appendLast_4 : decode cX1_appendLast 4 = .ok (.iconst (-1), 1) := by decide +kernel
theorem dX1_appendLast_5 : decode cX1_appendLast 5 = .ok (.iconst (-1), 1) := by decide +kernel
theorem dX1_appendLast_6 : decode cX1_appendLast 6 = .ok (.iconst (-1), 1) := by decide +kernel
theorem dX1_appendLast_7 : decode cX1_appendLast 7 = .ok (.iconst (-1), 1) := by decide +kernel
theorem dX1_appendLast_8 : decode cX1_appendLast 8 = .ok (.invokevirtual 36, 3) := by decide +kernel
theorem dX1_appendLast_11 : decode cX1_appendLast 11 = .ok (.ireturn, 1) := by decide +kernel
theorem dX1_append_0 : decode cX1_append 0 = .ok (.aload_n 0, 1) := by decide +kernel
theorem dX1_append_1 : decode cX1_append 1 = .ok (.getfield 32, 3) := by decide +kernel
theorem dX1_append_4 : decode cX1_append 4 = .ok (.sipush 400, 3) := by decide +kernel
theorem dX1_append_7 : decode cX1_append 7 = .ok (.if_icmp .lt 8, 3) := by decide +kernel
theorem dX1_append_10 : decode cX1_append 10 = .ok (.aload_n 0, 1) := by decide +kernel
theorem dX1_append_11 : decode cX1_append 11 = .ok (.getfield 32, 3) := by decide +kernel
theorem dX1_append_14 : decode cX1_append 14 = .ok (.ireturn, 1) := by decide +kernel
theorem dX1_append_15 : decode cX1_append 15 = .ok (.aload_n 0, 1) := by decide +kernel
theorem dX1_append_16 : decode cX1_append 16 = .ok (.dup, 1) := by decide +kernel
theorem dX1_append_17 : decode cX1_append 17 = .ok (.getfield 32, 3) := by decide +kernel
theorem dX1_append_20 : decode cX1_append 20 = .ok (.iconst 1, 1) := by decide +kernel
theorem dX1_append_21 : decode cX1_append 21 = .ok (.iadd, 1) := by decide +kernel
theorem dX1_append_22 : decode cX1_append 22 = .ok (.putfield 32, 3) := by decide +kernel
theorem dX1_append_25 : decode cX1_append 25 = .ok (.aload_n 0, 1) := by decide +kernel
theorem dX1_append_26 : decode cX1_append 26 = .ok (.getfield 32, 3) := by decide +kernel
theorem dX1_append_29 : decode cX1_append 29 = .ok (.bipush 7, 2) := by decide +kernel
theorem dX1_append_31 : decode cX1_append 31 = .ok (.imul, 1) := by decide +kernel
theorem dX1_append_32 : decode cX1_append 32 = .ok (.istore 8, 2) := by decide +kernel
theorem dX1_append_34 : decode cX1_append 34 = .ok (.aload_n 0, 1) := by decide +kernel
theorem dX1_append_35 : decode cX1_append 35 = .ok (.getfield 9, 3) := by decide +kernel
theorem dX1_append_38 : decode cX1_append 38 = .ok (.iload 8, 2) := by decide +kernel
theorem dX1_append_40 : decode cX1_append 40 = .ok (.iconst 0, 1) := by decide +kernel
theorem dX1_append_41 : decode cX1_append 41 = .ok (.iadd, 1) := by decide +kernel
theorem dX1_append_42 : decode cX1_append 42 = .ok (.iload_n 1, 1) := by decide +kernel
theorem dX1_append_43 : decode cX1_append 43 = .ok (.iastore, 1) := by decide +kernel
theorem dX1_append_44 : decode cX1_append 44 = .ok (.aload_n 0, 1) := by decide +kernel
theorem dX1_append_45 : decode cX1_append 45 = .ok (.getfield 9, 3) := by decide +kernel
theorem dX1_append_48 : decode cX1_append 48 = .ok (.iload 8, 2) := by decide +kernel
theorem dX1_append_50 : decode cX1_append 50 = .ok (.iconst 1, 1) := by decide +kernel
theorem dX1_append_51 : decode cX1_append 51 = .ok (.iadd, 1) := by decide +kernel
theorem dX1_append_52 : decode cX1_append 52 = .ok (.iload_n 2, 1) := by decide +kernel
theorem dX1_append_53 : decode cX1_append 53 = .ok (.iastore, 1) := by decide +kernel
theorem dX1_append_54 : decode cX1_append 54 = .ok (.aload_n 0, 1) := by decide +kernel
theorem dX1_append_55 : decode cX1_append 55 = .ok (.getfield 9, 3) := by decide +kernel
theorem dX1_append_58 : decode cX1_append 58 = .ok (.iload 8, 2) := by decide +kernel
theorem dX1_append_60 : decode cX1_append 60 = .ok (.iconst 2, 1) := by decide +kernel
theorem dX1_append_61 : decode cX1_append 61 = .ok (.iadd, 1) := by decide +kernel
theorem dX1_append_62 : decode cX1_append 62 = .ok (.iload_n 3, 1) := by decide +kernel
theorem dX1_append_63 : decode cX1_append 63 = .ok (.iastore, 1) := by decide +kernel
theorem dX1_append_64 : decode cX1_append 64 = .ok (.aload_n 0, 1) := by decide +kernel
theorem dX1_append_65 : decode cX1_append 65 = .ok (.getfield 9, 3) := by decide +kernel
theorem dX1_append_68 : decode cX1_append 68 = .ok (.iload 8, 2) := by decide +kernel
theorem dX1_append_70 : decode cX1_append 70 = .ok (.iconst 3, 1) := by decide +kernel
theorem dX1_append_71 : decode cX1_append 71 = .ok (.iadd, 1) := by decide +kernel
theorem dX1_append_72 : decode cX1_append 72 = .ok (.iload 4, 2) := by decide +kernel
theorem dX1_append_74 : decode cX1_append 74 = .ok (.iastore, 1) := by decide +kernel
theorem dX1_append_75 : decode cX1_append 75 = .ok (.aload_n 0, 1) := by decide +kernel
theorem dX1_append_76 : decode cX1_append 76 = .ok (.getfield 9, 3) := by decide +kernel
theorem dX1_append_79 : decode cX1_append 79 = .ok (.iload 8, 2) := by decide +kernel
theorem dX1_append_81 : decode cX1_append 81 = .ok (.iconst 4, 1) := by decide +kernel
theorem dX1_append_82 : decode cX1_append 82 = .ok (.iadd, 1) := by decide +kernel
theorem dX1_append_83 : decode cX1_append 83 = .ok (.iload 5, 2) := by decide +kernel
theorem dX1_append_85 : decode cX1_append 85 = .ok (.iastore, 1) := by decide +kernel
theorem dX1_append_86 : decode cX1_append 86 = .ok (.aload_n 0, 1) := by decide +kernel
theorem dX1_append_87 : decode cX1_append 87 = .ok (.getfield 9, 3) := by decide +kernel
theorem dX1_append_90 : decode cX1_append 90 = .ok (.iload 8, 2) := by decide +kernel
theorem dX1_append_92 : decode cX1_append 92 = .ok (.iconst 5, 1) := by decide +kernel
theorem dX1_append_93 : decode cX1_append 93 = .ok (.iadd, 1) := by decide +kernel
theorem dX1_append_94 : decode cX1_append 94 = .ok (.iload 6, 2) := by decide +kernel
theorem dX1_append_96 : decode cX1_append 96 = .ok (.iastore, 1) := by decide +kernel
theorem dX1_append_97 : decode cX1_append 97 = .ok (.aload_n 0, 1) := by decide +kernel
theorem dX1_append_98 : decode cX1_append 98 = .ok (.getfield 9, 3) := by decide +kernel
theorem dX1_append_101 : decode cX1_append 101 = .ok (.iload 8, 2) := by decide +kernel
theorem dX1_append_103 : decode cX1_append 103 = .ok (.bipush 6, 2) := by decide +kernel
theorem dX1_append_105 : decode cX1_append 105 = .ok (.iadd, 1) := by decide +kernel
theorem dX1_append_106 : decode cX1_append 106 = .ok (.iload 7, 2) := by decide +kernel
theorem dX1_append_108 : decode cX1_append 108 = .ok (.iastore, 1) := by decide +kernel
theorem dX1_append_109 : decode cX1_append 109 = .ok (.aload_n 0, 1) := by decide +kernel
theorem dX1_append_110 : decode cX1_append 110 = .ok (.aload_n 0, 1) := by decide +kernel
theorem dX1_append_111 : decode cX1_append 111 = .ok (.getfield 32, 3) := by decide +kernel
theorem dX1_append_114 : decode cX1_append 114 = .ok (.invokevirtual 40, 3) := by decide +kernel
theorem dX1_append_117 : decode cX1_append 117 = .ok (.aload_n 0, 1) := by decide +kernel
theorem dX1_append_118 : decode cX1_append 118 = .ok (.getfield 32, 3) := by decide +kernel
theorem dX1_append_121 : decode cX1_append 121 = .ok (.ireturn, 1) := by decide +kernel
theorem dX1_follow_0 : decode cX1_follow 0 = .ok (.aload_n 0, 1) := by decide +kernel
theorem dX1_follow_1 : decode cX1_follow 1 = .ok (.iload_n 1, 1) := by decide +kernel
theorem dX1_follow_2 : decode cX1_follow 2 = .ok (.iconst 1, 1) := by decide +kernel
theorem dX1_follow_3 : decode cX1_follow 3 = .ok (.invokevirtual 28, 3) := by decide +kernel
theorem dX1_follow_6 : decode cX1_follow 6 = .ok (.istore_n 2, 1) := by decide +kernel
theorem dX1_follow_7 : decode cX1_follow 7 = .ok (.aload_n 0, 1) := by decide +kernel
theorem dX1_follow_8 : decode cX1_follow 8 = .ok (.iload_n 1, 1) := by decide +kernel
theorem dX1_follow_9 : decode cX1_follow 9 = .ok (.iconst 0, 1) := by decide +kernel
theorem dX1_follow_10 : decode cX1_follow 10 = .ok (.invokevirtual 28, 3) := by decide +kernel
theorem dX1_follow_13 : decode cX1_follow 13 = .ok (.istore_n 3, 1) := by decide +kernel
theorem dX1_follow_14 : decode cX1_follow 14 = .ok (.aload_n 0, 1) := by decide +kernel
theorem dX1_follow_15 : decode cX1_follow 15 = .ok (.getfield 15, 3) := by decide +kernel
theorem dX1_follow_18 : decode cX1_follow 18 = .ok (.iload_n 1, 1) := by decide +kernel
theorem dX1_follow_19 : decode cX1_follow 19 = .ok (.iconst 0, 1) := by decide +kernel
theorem dX1_follow_20 : decode cX1_follow 20 = .ok (.bastore, 1) := by decide +kernel
theorem dX1_follow_21 : decode cX1_follow 21 = .ok (.iload_n 3, 1) := by decide +kernel
theorem dX1_follow_22 : decode cX1_follow 22 = .ok (.ifCond .ne 23, 3) := by decide +kernel
theorem dX1_follow_25 : decode cX1_follow 25 = .ok (.aload_n 0, 1) := by decide +kernel
theorem dX1_follow_26 : decode cX1_follow 26 = .ok (.getfield 19, 3) := by decide +kernel
theorem dX1_follow_29 : decode cX1_follow 29 = .ok (.iload_n 2, 1) := by decide +kernel
theorem dX1_follow_30 : decode cX1_follow 30 = .ok (.iload_n 1, 1) := by decide +kernel
theorem dX1_follow_31 : decode cX1_follow 31 = .ok (.iastore, 1) := by decide +kernel
theorem dX1_follow_32 : decode cX1_follow 32 = .ok (.aload_n 0, 1) := by decide +kernel
theorem dX1_follow_33 : decode cX1_follow 33 = .ok (.getfield 25, 3) := by decide +kernel
theorem dX1_follow_36 : decode cX1_follow 36 = .ok (.iload_n 2, 1) := by decide +kernel
theorem dX1_follow_37 : decode cX1_follow 37 = .ok (.dup2, 1) := by decide +kernel
theorem dX1_follow_38 : decode cX1_follow 38 = .ok (.iaload, 1) := by decide +kernel
theorem dX1_follow_39 : decode cX1_follow 39 = .ok (.iconst 1, 1) := by decide +kernel
theorem dX1_follow_40 : decode cX1_follow 40 = .ok (.iadd, 1) := by decide +kernel
theorem dX1_follow_41 : decode cX1_follow 41 = .ok (.iastore, 1) := by decide +kernel
theorem dX1_follow_42 : decode cX1_follow 42 = .ok (.goto 48, 3) := by decide +kernel
theorem dX1_follow_45 : decode cX1_follow 45 = .ok (.iload_n 3, 1) := by decide +kernel
theorem dX1_follow_46 : decode cX1_follow 46 = .ok (.iconst 1, 1) := by decide +kernel
theorem dX1_follow_47 : decode cX1_follow 47 = .ok (.if_icmp .ne 29, 3) := by decide +kernel
theorem dX1_follow_50 : decode cX1_follow 50 = .ok (.aload_n 0, 1) := by decide +kernel
theorem dX1_follow_51 : decode cX1_follow 51 = .ok (.getfield 15, 3) := by decide +kernel
theorem dX1_follow_54 : decode cX1_follow 54 = .ok (.aload_n 0, 1) := by decide +kernel
theorem dX1_follow_55 : decode cX1_follow 55 = .ok (.iload_n 1, 1) := by decide +kernel
theorem dX1_follow_56 : decode cX1_follow 56 = .ok (.bipush 6, 2) := by decide +kernel
theorem dX1_follow_58 : decode cX1_follow 58 = .ok (.invokevirtual 28, 3) := by decide +kernel
theorem dX1_follow_61 : decode cX1_follow 61 = .ok (.iconst 1, 1) := by decide +kernel
theorem dX1_follow_62 : decode cX1_follow 62 = .ok (.bastore, 1) := by decide +kernel
theorem dX1_follow_63 : decode cX1_follow 63 = .ok (.aload_n 0, 1) := by decide +kernel
theorem dX1_follow_64 : decode cX1_follow 64 = .ok (.getfield 25, 3) := by decide +kernel
theorem dX1_follow_67 : decode cX1_follow 67 = .ok (.iload_n 2, 1) := by decide +kernel
theorem dX1_follow_68 : decode cX1_follow 68 = .ok (.dup2, 1) := by decide +kernel
theorem dX1_follow_69 : decode cX1_follow 69 = .ok (.iaload, 1) := by decide +kernel
theorem dX1_follow_70 : decode cX1_follow 70 = .ok (.iconst 1, 1) := by decide +kernel
theorem dX1_follow_71 : decode cX1_follow 71 = .ok (.isub, 1) := by decide +kernel
theorem dX1_follow_72 : decode cX1_follow 72 = .ok (.iastore, 1) := by decide +kernel
theorem dX1_follow_73 : decode cX1_follow 73 = .ok (.goto 17, 3) := by decide +kernel
theorem dX1_follow_76 : decode cX1_follow 76 = .ok (.aload_n 0, 1) := by decide +kernel
theorem dX1_follow_77 : decode cX1_follow 77 = .ok (.getfield 22, 3) := by decide +kernel
theorem dX1_follow_80 : decode cX1_follow 80 = .ok (.iload_n 2, 1) := by decide +kernel
theorem dX1_follow_81 : decode cX1_follow 81 = .ok (.iload_n 1, 1) := by decide +kernel
theorem dX1_follow_82 : decode cX1_follow 82 = .ok (.iastore, 1) := by decide +kernel
theorem dX1_follow_83 : decode cX1_follow 83 = .ok (.aload_n 0, 1) := by decide +kernel
theorem dX1_follow_84 : decode cX1_follow 84 = .ok (.getfield 25, 3) := by decide +kernel
theorem dX1_follow_87 : decode cX1_follow 87 = .ok (.iload_n 2, 1) := by decide +kernel
theorem dX1_follow_88 : decode cX1_follow 88 = .ok (.iconst 0, 1) := by decide +kernel
theorem dX1_follow_89 : decode cX1_follow 89 = .ok (.iastore, 1) := by decide +kernel
theorem dX1_follow_90 : decode cX1_follow 90 = .ok (.return_, 1) := by decide +kernel
theorem dX1_flushTo_0 : decode cX1_flushTo 0 = .ok (.aload_n 0, 1) := by decide +kernel
theorem dX1_flushTo_1 : decode cX1_flushTo 1 = .ok (.aload_n 0, 1) := by decide +kernel
theorem dX1_flushTo_2 : decode cX1_flushTo 2 = .ok (.getfield 44, 3) := by decide +kernel
theorem dX1_flushTo_5 : decode cX1_flushTo 5 = .ok (.iload_n 1, 1) := by decide +kernel
theorem dX1_flushTo_6 : decode cX1_flushTo 6 = .ok (.aload_n 0, 1) := by decide +kernel
theorem dX1_flushTo_7 : decode cX1_flushTo 7 = .ok (.getfield 32, 3) := by decide +kernel
theorem dX1_flushTo_10 : decode cX1_flushTo 10 = .ok (.invokestatic 47, 3) := by decide +kernel
theorem dX1_flushTo_13 : decode cX1_flushTo 13 = .ok (.invokestatic 52, 3) := by decide +kernel
theorem dX1_flushTo_16 : decode cX1_flushTo 16 = .ok (.putfield 44, 3) := by decide +kernel
theorem dX1_flushTo_19 : decode cX1_flushTo 19 = .ok (.return_, 1) := by decide +kernel
theorem dX1_dropUnflushed_0 : decode cX1_dropUnflushed 0 = .ok (.aload_n 0, 1) := by decide +kernel
theorem dX1_dropUnflushed_1 : decode cX1_dropUnflushed 1 = .ok (.getfield 32, 3) := by decide +kernel
theorem dX1_dropUnflushed_4 : decode cX1_dropUnflushed 4 = .ok (.aload_n 0, 1) := by decide +kernel
theorem dX1_dropUnflushed_5 : decode cX1_dropUnflushed 5 = .ok (.getfield 44, 3) := by decide +kernel
theorem dX1_dropUnflushed_8 : decode cX1_dropUnflushed 8 = .ok (.isub, 1) := by decide +kernel
theorem dX1_dropUnflushed_9 : decode cX1_dropUnflushed 9 = .ok (.istore_n 1, 1) := by decide +kernel
theorem dX1_dropUnflushed_10 : decode cX1_dropUnflushed 10 = .ok (.aload_n 0, 1) := by decide +kernel
theorem dX1_dropUnflushed_11 : decode cX1_dropUnflushed 11 = .ok (.aload_n 0, 1) := by decide +kernel
theorem dX1_dropUnflushed_12 : decode cX1_dropUnflushed 12 = .ok (.getfield 44, 3) := by decide +kernel
theorem dX1_dropUnflushed_15 : decode cX1_dropUnflushed 15 = .ok (.putfield 32, 3) := by decide +kernel
theorem dX1_dropUnflushed_18 : decode cX1_dropUnflushed 18 = .ok (.aload_n 0, 1) := by decide +kernel
theorem dX1_dropUnflushed_19 : decode cX1_dropUnflushed 19 = .ok (.getfield 19, 3) := by decide +kernel
theorem dX1_dropUnflushed_22 : decode cX1_dropUnflushed 22 = .ok (.iconst 0, 1) := by decide +kernel
theorem dX1_dropUnflushed_23 : decode cX1_dropUnflushed 23 = .ok (.invokestatic 55, 3) := by decide +kernel
theorem dX1_dropUnflushed_26 : decode cX1_dropUnflushed 26 = .ok (.aload_n 0, 1) := by decide +kernel
theorem dX1_dropUnflushed_27 : decode cX1_dropUnflushed 27 = .ok (.getfield 22, 3) := by decide +kernel
theorem dX1_dropUnflushed_30 : decode cX1_dropUnflushed 30 = .ok (.iconst 0, 1) := by decide +kernel
theorem dX1_dropUnflushed_31 : decode cX1_dropUnflushed 31 = .ok (.invokestatic 55, 3) := by decide +kernel
theorem dX1_dropUnflushed_34 : decode cX1_dropUnflushed 34 = .ok (.aload_n 0, 1) := by decide +kernel
theorem dX1_dropUnflushed_35 : decode cX1_dropUnflushed 35 = .ok (.getfield 25, 3) := by decide +kernel
theorem dX1_dropUnflushed_38 : decode cX1_dropUnflushed 38 = .ok (.iconst 0, 1) := by decide +kernel
theorem dX1_dropUnflushed_39 : decode cX1_dropUnflushed 39 = .ok (.invokestatic 55, 3) := by decide +kernel
theorem dX1_dropUnflushed_42 : decode cX1_dropUnflushed 42 = .ok (.iconst 1, 1) := by decide +kernel
theorem dX1_dropUnflushed_43 : decode cX1_dropUnflushed 43 = .ok (.istore_n 2, 1) := by decide +kernel
theorem dX1_dropUnflushed_44 : decode cX1_dropUnflushed 44 = .ok (.iload_n 2, 1) := by decide +kernel
theorem dX1_dropUnflushed_45 : decode cX1_dropUnflushed 45 = .ok (.aload_n 0, 1) := by decide +kernel
theorem dX1_dropUnflushed_46 : decode cX1_dropUnflushed 46 = .ok (.getfield 32, 3) := by decide +kernel
theorem dX1_dropUnflushed_49 : decode cX1_dropUnflushed 49 = .ok (.if_icmp .gt 14, 3) := by decide +kernel
theorem dX1_dropUnflushed_52 : decode cX1_dropUnflushed 52 = .ok (.aload_n 0, 1) := by decide +kernel
theorem dX1_dropUnflushed_53 : decode cX1_dropUnflushed 53 = .ok (.iload_n 2, 1) := by decide +kernel
theorem dX1_dropUnflushed_54 : decode cX1_dropUnflushed 54 = .ok (.invokevirtual 40, 3) := by decide +kernel
theorem dX1_dropUnflushed_57 : decode cX1_dropUnflushed 57 = .ok (.iinc 2 1, 3) := by decide +kernel
theorem dX1_dropUnflushed_60 : decode cX1_dropUnflushed 60 = .ok (.goto (-16), 3) := by decide +kernel
theorem dX1_dropUnflushed_63 : decode cX1_dropUnflushed 63 = .ok (.iload_n 1, 1) := by decide +kernel
theorem dX1_dropUnflushed_64 : decode cX1_dropUnflushed 64 = .ok (.ireturn, 1) := by decide +kernel
theorem dX2_init_0 : decode cX2_init 0 = .ok (.aload_n 0, 1) := by decide +kernel
theorem dX2_init_1 : decode cX2_init 1 = .ok (.invokespecial 3, 3) := by decide +kernel
theorem dX2_init_4 : decode cX2_init 4 = .ok (.aload_n 0, 1) := by decide +kernel
theorem dX2_init_5 : decode cX2_init 5 = .ok (.bipush 32, 2) := by decide +kernel
theorem dX2_init_7 : decode cX2_init 7 = .ok (.bipush 9, 2) := by decide +kernel
theorem dX2_init_9 : decode cX2_init 9 = .ok (.multianewarray 9 2, 4) := by decide +kernel
theorem dX2_init_13 : decode cX2_init 13 = .ok (.putfield 11, 3) := by decide +kernel
theorem dX2_init_16 : decode cX2_init 16 = .ok (.aload_n 0, 1) := by decide +kernel
theorem dX2_init_17 : decode cX2_init 17 = .ok (.iload_n 1, 1) := by decide +kernel
theorem dX2_init_18 : decode cX2_init 18 = .ok (.anewarray 16, 3) := by decide +kernel
theorem dX2_init_21 : decode cX2_init 21 = .ok (.putfield 18, 3) := by decide +kernel
theorem dX2_init_24 : decode cX2_init 24 = .ok (.iconst 0, 1) := by decide +kernel
theorem dX2_init_25 : decode cX2_init 25 = .ok (.istore_n 2, 1) := by decide +kernel
theorem dX2_init_26 : decode cX2_init 26 = .ok (.iload_n 2, 1) := by decide +kernel
theorem dX2_init_27 : decode cX2_init 27 = .ok (.iload_n 1, 1) := by decide +kernel
theorem dX2_init_28 : decode cX2_init 28 = .ok (.if_icmp .ge 22, 3) := by decide +kernel
theorem dX2_init_31 : decode cX2_init 31 = .ok (.aload_n 0, 1) := by decide +kernel
theorem dX2_init_32 : decode cX2_init 32 = .ok (.getfield 18, 3) := by decide +kernel
theorem dX2_init_35 : decode cX2_init 35 = .ok (.iload_n 2, 1) := by decide +kernel
theorem dX2_init_36 : decode cX2_init 36 = .ok (.new 16, 3) := by decide +kernel
theorem dX2_init_39 : decode cX2_init 39 = .ok (.dup, 1) := by decide +kernel
theorem dX2_init_40 : decode cX2_init 40 = .ok (.invokespecial 22, 3) := by decide +kernel
theorem dX2_init_43 : decode cX2_init 43 = .ok (.aastore, 1) := by decide +kernel
theorem dX2_init_44 : decode cX2_init 44 = .ok (.iinc 2 1, 3) := by decide +kernel
theorem dX2_init_47 : decode cX2_init 47 = .ok (.goto (-21), 3) := by decide +kernel
theorem dX2_init_50 : decode cX2_init 50 = .ok (.return_, 1) := by decide +kernel
theorem dX2_find_0 : decode cX2_find 0 = .ok (.iconst 0, 1) := by decide +kernel
theorem dX2_find_1 : decode cX2_find 1 = .ok (.istore_n 2, 1) := by decide +kernel
theorem dX2_find_2 : decode cX2_find 2 = .ok (.iload_n 2, 1) := by decide +kernel
theorem dX2_find_3 : decode cX2_find 3 = .ok (.aload_n 0, 1) := by decide +kernel
theorem dX2_find_4 : decode cX2_find 4 = .ok (.getfield 18, 3) := by decide +kernel
theorem dX2_find_7 : decode cX2_find 7 = .ok (.arraylength, 1) := by decide +kernel
theorem dX2_find_8 : decode cX2_find 8 = .ok (.if_icmp .ge 24, 3) := by decide +kernel
theorem dX2_find_11 : decode cX2_find 11 = .ok (.aload_n 0, 1) := by decide +kernel
theorem dX2_find_12 : decode cX2_find 12 = .ok (.getfield 18, 3) := by decide +kernel
theorem dX2_find_15 : decode cX2_find 15 = .ok (.iload_n 2, 1) := by decide +kernel
theorem dX2_find_16 : decode cX2_find 16 = .ok (.aaload, 1) := by decide +kernel
theorem dX2_find_17 : decode cX2_find 17 = .ok (.getfield 23, 3) := by decide +kernel
theorem dX2_find_20 : decode cX2_find 20 = .ok (.iload_n 1, 1) := by decide +kernel
theorem dX2_find_21 : decode cX2_find 21 = .ok (.if_icmp .ne 5, 3) := by decide +kernel
theorem dX2_find_24 : decode cX2_find 24 = .ok (.iload_n 2, 1) := by decide +kernel
theorem dX2_find_25 : decode cX2_find 25 = .ok (.ireturn, 1) := by decide +kernel
theorem dX2_find_26 : decode cX2_find 26 = .ok (.iinc 2 1, 3) := by decide +kernel
theorem dX2_find_29 : decode cX2_find 29 = .ok (.goto (-27), 3) := by decide +kernel
theorem dX2_find_32 : decode cX2_find 32 = .ok (.iconst (-1), 1) := by decide +kernel
theorem dX2_find_33 : decode cX2_find 33 = .ok (.ireturn, 1) := by decide +kernel
theorem dX2_bring_0 : decode cX2_bring 0 = .ok (.aload_n 0, 1) := by decide +kernel
theorem dX2_bring_1 : decode cX2_bring 1 = .ok (.iload_n 1, 1) := by decide +kernel
theorem dX2_bring_2 : decode cX2_bring 2 = .ok (.invokevirtual 27, 3) := by decide +kernel
theorem dX2_bring_5 : decode cX2_bring 5 = .ok (.istore_n 3, 1) := by decide +kernel
theorem dX2_bring_6 : decode cX2_bring 6 = .ok (.iload_n 3, 1) := by decide +kernel
theorem dX2_bring_7 : decode cX2_bring 7 = .ok (.ifCond .ge 26, 3) := by decide +kernel
theorem dX2_bring_10 : decode cX2_bring 10 = .ok (.aload_n 0, 1) := by decide +kernel
theorem dX2_bring_11 : decode cX2_bring 11 = .ok (.iload_n 2, 1) := by decide +kernel
theorem dX2_bring_12 : decode cX2_bring 12 = .ok (.invokevirtual 31, 3) := by decide +kernel
theorem dX2_bring_15 : decode cX2_bring 15 = .ok (.istore_n 3, 1) := by decide +kernel
theorem dX2_bring_16 : decode cX2_bring 16 = .ok (.iload_n 3, 1) := by decide +kernel
theorem dX2_bring_17 : decode cX2_bring 17 = .ok (.ifCond .ge 5, 3) := by decide +kernel
theorem dX2_bring_20 : decode cX2_bring 20 = .ok (.iconst (-1), 1) := by decide +kernel
theorem dX2_bring_21 : decode cX2_bring 21 = .ok (.ireturn, 1) := by decide +kernel
theorem dX2_bring_22 : decode cX2_bring 22 = .ok (.aload_n 0, 1) := by decide +kernel
theorem dX2_bring_23 : decode cX2_bring 23 = .ok (.iload_n 1, 1) := by decide +kernel
theorem dX2_bring_24 : decode cX2_bring 24 = .ok (.aload_n 0, 1) := by decide +kernel
theorem dX2_bring_25 : decode cX2_bring 25 = .ok (.getfield 18, 3) := by decide +kernel
theorem dX2_bring_28 : decode cX2_bring 28 = .ok (.iload_n 3, 1) := by decide +kernel
theorem dX2_bring_29 : decode cX2_bring 29 = .ok (.aaload, 1) := by decide +kernel
theorem dX2_bring_30 : decode cX2_bring 30 = .ok (.invokevirtual 34, 3) := by decide +kernel
theorem dX2_bring_33 : decode cX2_bring 33 = .ok (.aload_n 0, 1) := by decide +kernel
theorem dX2_bring_34 : decode cX2_bring 34 = .ok (.getfield 18, 3) := by decide +kernel
theorem dX2_bring_37 : decode cX2_bring 37 = .ok (.iload_n 3, 1) := by decide +kernel
theorem dX2_bring_38 : decode cX2_bring 38 = .ok (.aaload, 1) := by decide +kernel
theorem dX2_bring_39 : decode cX2_bring 39 = .ok (.iconst 1, 1) := by decide +kernel
theorem dX2_bring_40 : decode cX2_bring 40 = .ok (.putfield 38, 3) := by decide +kernel
theorem dX2_bring_43 : decode cX2_bring 43 = .ok (.iload_n 3, 1) := by decide +kernel
theorem dX2_bring_44 : decode cX2_bring 44 = .ok (.ireturn, 1) := by decide +kernel
theorem dX2_roomFor_0 : decode cX2_roomFor 0 = .ok (.aload_n 0, 1) := by decide +kernel
theorem dX2_roomFor_1 : decode cX2_roomFor 1 = .ok (.iconst (-1), 1) := by decide +kernel
theorem dX2_roomFor_2 : decode cX2_roomFor 2 = .ok (.invokevirtual 27, 3) := by decide +kernel
theorem dX2_roomFor_5 : decode cX2_roomFor 5 = .ok (.istore_n 2, 1) := by decide +kernel
theorem dX2_roomFor_6 : decode cX2_roomFor 6 = .ok (.iload_n 2, 1) := by decide +kernel
theorem dX2_roomFor_7 : decode cX2_roomFor 7 = .ok (.ifCond .lt 7, 3) := by decide +kernel
theorem dX2_roomFor_10 : decode cX2_roomFor 10 = .ok (.iload_n 2, 1) := by decide +kernel
theorem dX2_roomFor_11 : decode cX2_roomFor 11 = .ok (.goto 8, 3) := by decide +kernel
theorem dX2_roomFor_14 : decode cX2_roomFor 14 = .ok (.aload_n 0, 1) := by decide +kernel
theorem dX2_roomFor_15 : decode cX2_roomFor 15 = .ok (.iload_n 1, 1) := by decide +kernel
theorem dX2_roomFor_16 : decode cX2_roomFor 16 = .ok (.invokevirtual 42, 3) := by decide +kernel
theorem dX2_roomFor_19 : decode cX2_roomFor 19 = .ok (.ireturn, 1) := by decide +kernel
theorem dX2_turnHand_0 : decode cX2_turnHand 0 = .ok (.iconst 0, 1) := by decide +kernel
theorem dX2_turnHand_1 : decode cX2_turnHand 1 = .ok (.istore_n 2, 1) := by decide +kernel
theorem dX2_turnHand_2 : decode cX2_turnHand 2 = .ok (.iload_n 2, 1) := by decide +kernel
theorem dX2_turnHand_3 : decode cX2_turnHand 3 = .ok (.iconst 2, 1) := by decide +kernel
theorem dX2_turnHand_4 : decode cX2_turnHand 4 = .ok (.aload_n 0, 1) := by decide +kernel
theorem dX2_turnHand_5 : decode cX2_turnHand 5 = .ok (.getfield 18, 3) := by decide +kernel
theorem dX2_turnHand_8 : decode cX2_turnHand 8 = .ok (.arraylength, 1) := by decide +kernel
theorem dX2_turnHand_9 : decode cX2_turnHand 9 = .ok (.imul, 1) := by decide +kernel
theorem dX2_turnHand_10 : decode cX2_turnHand 10 = .ok (.if_icmp .ge 73, 3) := by decide +kernel
theorem dX2_turnHand_13 : decode cX2_turnHand 13 = .ok (.aload_n 0, 1) := by decide +kernel
theorem dX2_turnHand_14 : decode cX2_turnHand 14 = .ok (.getfield 45, 3) := by decide +kernel
theorem dX2_turnHand_17 : decode cX2_turnHand 17 = .ok (.istore_n 3, 1) := by decide +kernel
theorem dX2_turnHand_18 : decode cX2_turnHand 18 = .ok (.aload_n 0, 1) := by decide +kernel
theorem dX2_turnHand_19 : decode cX2_turnHand 19 = .ok (.iload_n 3, 1) := by decide +kernel
theorem dX2_turnHand_20 : decode cX2_turnHand 20 = .ok (.iconst 1, 1) := by decide +kernel
theorem dX2_turnHand_21 : decode cX2_turnHand 21 = .ok (.iadd, 1) := by decide +kernel
theorem dX2_turnHand_22 : decode cX2_turnHand 22 = .ok (.aload_n 0, 1) := by decide +kernel
theorem dX2_turnHand_23 : decode cX2_turnHand 23 = .ok (.getfield 18, 3) := by decide +kernel
theorem dX2_turnHand_26 : decode cX2_turnHand 26 = .ok (.arraylength, 1) := by decide +kernel
theorem dX2_turnHand_27 : decode cX2_turnHand 27 = .ok (.if_icmp .ge 9, 3) := by decide +kernel
theorem dX2_turnHand_30 : decode cX2_turnHand 30 = .ok (.iload_n 3, 1) := by decide +kernel
theorem dX2_turnHand_31 : decode cX2_turnHand 31 = .ok (.iconst 1, 1) := by decide +kernel
theorem dX2_turnHand_32 : decode cX2_turnHand 32 = .ok (.iadd, 1) := by decide +kernel
theorem dX2_turnHand_33 : decode cX2_turnHand 33 = .ok (.goto 4, 3) := by decide +kernel
theorem dX2_turnHand_36 : decode cX2_turnHand 36 = .ok (.iconst 0, 1) := by decide +kernel
theorem dX2_turnHand_37 : decode cX2_turnHand 37 = .ok (.putfield 45, 3) := by decide +kernel
theorem dX2_turnHand_40 : decode cX2_turnHand 40 = .ok (.aload_n 0, 1) := by decide +kernel
theorem dX2_turnHand_41 : decode cX2_turnHand 41 = .ok (.getfield 18, 3) := by decide +kernel
theorem dX2_turnHand_44 : decode cX2_turnHand 44 = .ok (.iload_n 3, 1) := by decide +kernel
theorem dX2_turnHand_45 : decode cX2_turnHand 45 = .ok (.aaload, 1) := by decide +kernel
theorem dX2_turnHand_46 : decode cX2_turnHand 46 = .ok (.iload_n 1, 1) := by decide +kernel
theorem dX2_turnHand_47 : decode cX2_turnHand 47 = .ok (.invokevirtual 48, 3) := by decide +kernel
theorem dX2_turnHand_50 : decode cX2_turnHand 50 = .ok (.ifCond .eq 27, 3) := by decide +kernel
theorem dX2_turnHand_53 : decode cX2_turnHand 53 = .ok (.aload_n 0, 1) := by decide +kernel
theorem dX2_turnHand_54 : decode cX2_turnHand 54 = .ok (.getfield 18, 3) := by decide +kernel
theorem dX2_turnHand_57 : decode cX2_turnHand 57 = .ok (.iload_n 3, 1) := by decide +kernel
theorem dX2_turnHand_58 : decode cX2_turnHand 58 = .ok (.aaload, 1) := by decide +kernel
theorem dX2_turnHand_59 : decode cX2_turnHand 59 = .ok (.getfield 38, 3) := by decide +kernel
theorem dX2_turnHand_62 : decode cX2_turnHand 62 = .ok (.ifCond .ne 5, 3) := by decide +kernel
theorem dX2_turnHand_65 : decode cX2_turnHand 65 = .ok (.iload_n 3, 1) := by decide +kernel
theorem dX2_turnHand_66 : decode cX2_turnHand 66 = .ok (.ireturn, 1) := by decide +kernel
theorem dX2_turnHand_67 : decode cX2_turnHand 67 = .ok (.aload_n 0, 1) := by decide +kernel
theorem dX2_turnHand_68 : decode cX2_turnHand 68 = .ok (.getfield 18, 3) := by decide +kernel
theorem dX2_turnHand_71 : decode cX2_turnHand 71 = .ok (.iload_n 3, 1) := by decide +kernel
theorem dX2_turnHand_72 : decode cX2_turnHand 72 = .ok (.aaload, 1) := by decide +kernel
theorem dX2_turnHand_73 : decode cX2_turnHand 73 = .ok (.iconst 0, 1) := by decide +kernel
theorem dX2_turnHand_74 : decode cX2_turnHand 74 = .ok (.putfield 38, 3) := by decide +kernel
theorem dX2_turnHand_77 : decode cX2_turnHand 77 = .ok (.iinc 2 1, 3) := by decide +kernel
theorem dX2_turnHand_80 : decode cX2_turnHand 80 = .ok (.goto (-78), 3) := by decide +kernel
theorem dX2_turnHand_83 : decode cX2_turnHand 83 = .ok (.iconst (-1), 1) := by decide +kernel
theorem dX2_turnHand_84 : decode cX2_turnHand 84 = .ok (.ireturn, 1) := by decide +kernel
theorem dX2_load_0 : decode cX2_load 0 = .ok (.aload_n 2, 1) := by decide +kernel
theorem dX2_load_1 : decode cX2_load 1 = .ok (.getfield 52, 3) := by decide +kernel
theorem dX2_load_4 : decode cX2_load 4 = .ok (.ifCond .eq 8, 3) := by decide +kernel
theorem dX2_load_7 : decode cX2_load 7 = .ok (.aload_n 0, 1) := by decide +kernel
theorem dX2_load_8 : decode cX2_load 8 = .ok (.aload_n 2, 1) := by decide +kernel
theorem dX2_load_9 : decode cX2_load 9 = .ok (.invokevirtual 55, 3) := by decide +kernel
theorem dX2_load_12 : decode cX2_load 12 = .ok (.aload_n 0, 1) := by decide +kernel
theorem dX2_load_13 : decode cX2_load 13 = .ok (.getfield 11, 3) := by decide +kernel
theorem dX2_load_16 : decode cX2_load 16 = .ok (.iload_n 1, 1) := by decide +kernel
theorem dX2_load_17 : decode cX2_load 17 = .ok (.aaload, 1) := by decide +kernel
theorem dX2_load_18 : decode cX2_load 18 = .ok (.iconst 0, 1) := by decide +kernel
theorem dX2_load_19 : decode cX2_load 19 = .ok (.aload_n 2, 1) := by decide +kernel
theorem dX2_load_20 : decode cX2_load 20 = .ok (.getfield 59, 3) := by decide +kernel
theorem dX2_load_23 : decode cX2_load 23 = .ok (.iconst 0, 1) := by decide +kernel
theorem dX2_load_24 : decode cX2_load 24 = .ok (.bipush 9, 2) := by decide +kernel
theorem dX2_load_26 : decode cX2_load 26 = .ok (.invokestatic 63, 3) := by decide +kernel
theorem dX2_load_29 : decode cX2_load 29 = .ok (.aload_n 2, 1) := by decide +kernel
theorem dX2_load_30 : decode cX2_load 30 = .ok (.iload_n 1, 1) := by decide +kernel
theorem dX2_load_31 : decode cX2_load 31 = .ok (.putfield 23, 3) := by decide +kernel
theorem dX2_load_34 : decode cX2_load 34 = .ok (.aload_n 0, 1) := by decide +kernel
theorem dX2_load_35 : decode cX2_load 35 = .ok (.dup, 1) := by decide +kernel
theorem dX2_load_36 : decode cX2_load 36 = .ok (.getfield 69, 3) := by decide +kernel
theorem dX2_load_39 : decode cX2_load 39 = .ok (.iconst 1, 1) := by decide +kernel
theorem dX2_load_40 : decode cX2_load 40 = .ok (.iadd, 1) := by decide +kernel
theorem dX2_load_41 : decode cX2_load 41 = .ok (.putfield 69, 3) := by decide +kernel
theorem dX2_load_44 : decode cX2_load 44 = .ok (.return_, 1) := by decide +kernel
theorem dX2_writeBack_0 : decode cX2_writeBack 0 = .ok (.aload_n 1, 1) := by decide +kernel
theorem dX2_writeBack_1 : decode cX2_writeBack 1 = .ok (.getfield 59, 3) := by decide +kernel
theorem dX2_writeBack_4 : decode cX2_writeBack 4 = .ok (.iconst 0, 1) := by decide +kernel
theorem dX2_writeBack_5 : decode cX2_writeBack 5 = .ok (.aload_n 0, 1) := by decide +kernel
theorem dX2_writeBack_6 : decode cX2_writeBack 6 = .ok (.getfield 11, 3) := by decide +kernel
theorem dX2_writeBack_9 : decode cX2_writeBack 9 = .ok (.aload_n 1, 1) := by decide +kernel
theorem dX2_writeBack_10 : decode cX2_writeBack 10 = .ok (.getfield 23, 3) := by decide +kernel
theorem dX2_writeBack_13 : decode cX2_writeBack 13 = .ok (.aaload, 1) := by decide +kernel
theorem dX2_writeBack_14 : decode cX2_writeBack 14 = .ok (.iconst 0, 1) := by decide +kernel
theorem dX2_writeBack_15 : decode cX2_writeBack 15 = .ok (.bipush 9, 2) := by decide +kernel
theorem dX2_writeBack_17 : decode cX2_writeBack 17 = .ok (.invokestatic 63, 3) := by decide +kernel
theorem dX2_writeBack_20 : decode cX2_writeBack 20 = .ok (.aload_n 1, 1) := by decide +kernel
theorem dX2_writeBack_21 : decode cX2_writeBack 21 = .ok (.iconst 0, 1) := by decide +kernel
theorem dX2_writeBack_22 : decode cX2_writeBack 22 = .ok (.putfield 52, 3) := by decide +kernel
theorem dX2_writeBack_25 : decode cX2_writeBack 25 = .ok (.aload_n 0, 1) := by decide +kernel
theorem dX2_writeBack_26 : decode cX2_writeBack 26 = .ok (.dup, 1) := by decide +kernel
theorem dX2_writeBack_27 : decode cX2_writeBack 27 = .ok (.getfield 72, 3) := by decide +kernel
theorem dX2_writeBack_30 : decode cX2_writeBack 30 = .ok (.iconst 1, 1) := by decide +kernel
theorem dX2_writeBack_31 : decode cX2_writeBack 31 = .ok (.iadd, 1) := by decide +kernel
theorem dX2_writeBack_32 : decode cX2_writeBack 32 = .ok (.putfield 72, 3) := by decide +kernel
theorem dX2_writeBack_35 : decode cX2_writeBack 35 = .ok (.return_, 1) := by decide +kernel
theorem dX2_clear_0 : decode cX2_clear 0 = .ok (.iconst 0, 1) := by decide +kernel
theorem dX2_clear_1 : decode cX2_clear 1 = .ok (.istore_n 1, 1) := by decide +kernel
theorem dX2_clear_2 : decode cX2_clear 2 = .ok (.iload_n 1, 1) := by decide +kernel
theorem dX2_clear_3 : decode cX2_clear 3 = .ok (.aload_n 0, 1) := by decide +kernel
theorem dX2_clear_4 : decode cX2_clear 4 = .ok (.getfield 18, 3) := by decide +kernel
theorem dX2_clear_7 : decode cX2_clear 7 = .ok (.arraylength, 1) := by decide +kernel
theorem dX2_clear_8 : decode cX2_clear 8 = .ok (.if_icmp .ge 18, 3) := by decide +kernel
theorem dX2_clear_11 : decode cX2_clear 11 = .ok (.aload_n 0, 1) := by decide +kernel
theorem dX2_clear_12 : decode cX2_clear 12 = .ok (.getfield 18, 3) := by decide +kernel
theorem dX2_clear_15 : decode cX2_clear 15 = .ok (.iload_n 1, 1) := by decide +kernel
theorem dX2_clear_16 : decode cX2_clear 16 = .ok (.aaload, 1) := by decide +kernel
theorem dX2_clear_17 : decode cX2_clear 17 = .ok (.invokevirtual 75, 3) := by decide +kernel
theorem dX2_clear_20 : decode cX2_clear 20 = .ok (.iinc 1 1, 3) := by decide +kernel
theorem dX2_clear_23 : decode cX2_clear 23 = .ok (.goto (-21), 3) := by decide +kernel
theorem dX2_clear_26 : decode cX2_clear 26 = .ok (.aload_n 0, 1) := by decide +kernel
theorem dX2_clear_27 : decode cX2_clear 27 = .ok (.iconst 0, 1) := by decide +kernel
theorem dX2_clear_28 : decode cX2_clear 28 = .ok (.putfield 45, 3) := by decide +kernel
theorem dX2_clear_31 : decode cX2_clear 31 = .ok (.return_, 1) := by decide +kernel
theorem dJ9_max_7cf53_0 : decode cJ9_max_7cf53 0 = .ok (.iload_n 0, 1) := by decide +kernel
theorem dJ9_max_7cf53_1 : decode cJ9_max_7cf53 1 = .ok (.iload_n 1, 1) := by decide +kernel
theorem dJ9_max_7cf53_2 : decode cJ9_max_7cf53 2 = .ok (.if_icmp .lt 7, 3) := by decide +kernel
theorem dJ9_max_7cf53_5 : decode cJ9_max_7cf53 5 = .ok (.iload_n 0, 1) := by decide +kernel
theorem dJ9_max_7cf53_6 : decode cJ9_max_7cf53 6 = .ok (.goto 4, 3) := by decide +kernel
theorem dJ9_max_7cf53_9 : decode cJ9_max_7cf53 9 = .ok (.iload_n 1, 1) := by decide +kernel
theorem dJ9_max_7cf53_10 : decode cJ9_max_7cf53 10 = .ok (.ireturn, 1) := by decide +kernel
theorem dJ9_min_7cf53_0 : decode cJ9_min_7cf53 0 = .ok (.iload_n 0, 1) := by decide +kernel
theorem dJ9_min_7cf53_1 : decode cJ9_min_7cf53 1 = .ok (.iload_n 1, 1) := by decide +kernel
theorem dJ9_min_7cf53_2 : decode cJ9_min_7cf53 2 = .ok (.if_icmp .gt 7, 3) := by decide +kernel
theorem dJ9_min_7cf53_5 : decode cJ9_min_7cf53 5 = .ok (.iload_n 0, 1) := by decide +kernel
theorem dJ9_min_7cf53_6 : decode cJ9_min_7cf53 6 = .ok (.goto 4, 3) := by decide +kernel
theorem dJ9_min_7cf53_9 : decode cJ9_min_7cf53 9 = .ok (.iload_n 1, 1) := by decide +kernel
theorem dJ9_min_7cf53_10 : decode cJ9_min_7cf53 10 = .ok (.ireturn, 1) := by decide +kernel
theorem dJ7_fill_53178_0 : decode cJ7_fill_53178 0 = .ok (.iconst 0, 1) := by decide +kernel
theorem dJ7_fill_53178_1 : decode cJ7_fill_53178 1 = .ok (.istore_n 2, 1) := by decide +kernel
theorem dJ7_fill_53178_2 : decode cJ7_fill_53178 2 = .ok (.aload_n 0, 1) := by decide +kernel
theorem dJ7_fill_53178_3 : decode cJ7_fill_53178 3 = .ok (.arraylength, 1) := by decide +kernel
theorem dJ7_fill_53178_4 : decode cJ7_fill_53178 4 = .ok (.istore_n 3, 1) := by decide +kernel
theorem dJ7_fill_53178_5 : decode cJ7_fill_53178 5 = .ok (.iload_n 2, 1) := by decide +kernel
theorem dJ7_fill_53178_6 : decode cJ7_fill_53178 6 = .ok (.iload_n 3, 1) := by decide +kernel
theorem dJ7_fill_53178_7 : decode cJ7_fill_53178 7 = .ok (.if_icmp .ge 13, 3) := by decide +kernel
theorem dJ7_fill_53178_10 : decode cJ7_fill_53178 10 = .ok (.aload_n 0, 1) := by decide +kernel
theorem dJ7_fill_53178_11 : decode cJ7_fill_53178 11 = .ok (.iload_n 2, 1) := by decide +kernel
theorem dJ7_fill_53178_12 : decode cJ7_fill_53178 12 = .ok (.iload_n 1, 1) := by decide +kernel
theorem dJ7_fill_53178_13 : decode cJ7_fill_53178 13 = .ok (.iastore, 1) := by decide +kernel
theorem dJ7_fill_53178_14 : decode cJ7_fill_53178 14 = .ok (.iinc 2 1, 3) := by decide +kernel
theorem dJ7_fill_53178_17 : decode cJ7_fill_53178 17 = .ok (.goto (-12), 3) := by decide +kernel
theorem dJ7_fill_53178_20 : decode cJ7_fill_53178 20 = .ok (.return_, 1) := by decide +kernel
