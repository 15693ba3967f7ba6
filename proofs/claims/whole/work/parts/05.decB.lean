theorem dX3_init_0 : decode cX3_init 0 = .ok (.aload_n 0, 1) := by decide +kernel
theorem dX3_init_1 : decode cX3_init 1 = .ok (.invokespecial 3, 3) := by decide +kernel
theorem dX3_init_4 : decode cX3_init 4 = .ok (.aload_n 0, 1) := by decide +kernel
theorem dX3_init_5 : decode cX3_init 5 = .ok (.new 9, 3) := by decide +kernel
theorem dX3_init_8 : decode cX3_init 8 = .ok (.dup, 1) := by decide +kernel
theorem dX3_init_9 : decode cX3_init 9 = .ok (.iconst 1, 1) := by decide +kernel
theorem dX3_init_10 : decode cX3_init 10 = .ok (.bipush 8, 2) := by decide +kernel
theorem dX3_init_12 : decode cX3_init 12 = .ok (.iload_n 1, 1) := by decide +kernel
theorem dX3_init_13 : decode cX3_init 13 = .ok (.invokestatic 11, 3) := by decide +kernel
theorem dX3_init_16 : decode cX3_init 16 = .ok (.invokestatic 17, 3) := by decide +kernel
theorem dX3_init_19 : decode cX3_init 19 = .ok (.invokespecial 20, 3) := by decide +kernel
theorem dX3_init_22 : decode cX3_init 22 = .ok (.putfield 23, 3) := by decide +kernel
theorem dX3_init_25 : decode cX3_init 25 = .ok (.aload_n 0, 1) := by decide +kernel
theorem dX3_init_26 : decode cX3_init 26 = .ok (.new 27, 3) := by decide +kernel
theorem dX3_init_29 : decode cX3_init 29 = .ok (.dup, 1) := by decide +kernel
theorem dX3_init_30 : decode cX3_init 30 = .ok (.invokespecial 29, 3) := by decide +kernel
theorem dX3_init_33 : decode cX3_init 33 = .ok (.putfield 30, 3) := by decide +kernel
theorem dX3_init_36 : decode cX3_init 36 = .ok (.aload_n 0, 1) := by decide +kernel
theorem dX3_init_37 : decode cX3_init 37 = .ok (.bipush 8, 2) := by decide +kernel
theorem dX3_init_39 : decode cX3_init 39 = .ok (.newarray .boolean, 2) := by decide +kernel
theorem dX3_init_41 : decode cX3_init 41 = .ok (.putfield 34, 3) := by decide +kernel
theorem dX3_init_44 : decode cX3_init 44 = .ok (.aload_n 0, 1) := by decide +kernel
theorem dX3_init_45 : decode cX3_init 45 = .ok (.bipush 8, 2) := by decide +kernel
theorem dX3_init_47 : decode cX3_init 47 = .ok (.newarray .boolean, 2) := by decide +kernel
theorem dX3_init_49 : decode cX3_init 49 = .ok (.putfield 38, 3) := by decide +kernel
theorem dX3_init_52 : decode cX3_init 52 = .ok (.return_, 1) := by decide +kernel
theorem dX3_fetch_0 : decode cX3_fetch 0 = .ok (.iload_n 1, 1) := by decide +kernel
theorem dX3_fetch_1 : decode cX3_fetch 1 = .ok (.bipush 32, 2) := by decide +kernel
theorem dX3_fetch_3 : decode cX3_fetch 3 = .ok (.invokestatic 41, 3) := by decide +kernel
theorem dX3_fetch_6 : decode cX3_fetch 6 = .ok (.aload_n 0, 1) := by decide +kernel
theorem dX3_fetch_7 : decode cX3_fetch 7 = .ok (.getfield 23, 3) := by decide +kernel
theorem dX3_fetch_10 : decode cX3_fetch 10 = .ok (.iload_n 1, 1) := by decide +kernel
theorem dX3_fetch_11 : decode cX3_fetch 11 = .ok (.aload_n 0, 1) := by decide +kernel
theorem dX3_fetch_12 : decode cX3_fetch 12 = .ok (.getfield 30, 3) := by decide +kernel
theorem dX3_fetch_15 : decode cX3_fetch 15 = .ok (.getfield 45, 3) := by decide +kernel
theorem dX3_fetch_18 : decode cX3_fetch 18 = .ok (.invokevirtual 49, 3) := by decide +kernel
theorem dX3_fetch_21 : decode cX3_fetch 21 = .ok (.istore_n 2, 1) := by decide +kernel
theorem dX3_fetch_22 : decode cX3_fetch 22 = .ok (.iload_n 2, 1) := by decide +kernel
theorem dX3_fetch_23 : decode cX3_fetch 23 = .ok (.ifCond .ge 6, 3) := by decide +kernel
theorem dX3_fetch_26 : decode cX3_fetch 26 = .ok (.bipush (-2), 2) := by decide +kernel
theorem dX3_fetch_28 : decode cX3_fetch 28 = .ok (.ireturn, 1) := by decide +kernel
theorem dX3_fetch_29 : decode cX3_fetch 29 = .ok (.aload_n 0, 1) := by decide +kernel
theorem dX3_fetch_30 : decode cX3_fetch 30 = .ok (.getfield 23, 3) := by decide +kernel
theorem dX3_fetch_33 : decode cX3_fetch 33 = .ok (.getfield 52, 3) := by decide +kernel
theorem dX3_fetch_36 : decode cX3_fetch 36 = .ok (.iload_n 2, 1) := by decide +kernel
theorem dX3_fetch_37 : decode cX3_fetch 37 = .ok (.aaload, 1) := by decide +kernel
theorem dX3_fetch_38 : decode cX3_fetch 38 = .ok (.dup, 1) := by decide +kernel
theorem dX3_fetch_39 : decode cX3_fetch 39 = .ok (.getfield 56, 3) := by decide +kernel
theorem dX3_fetch_42 : decode cX3_fetch 42 = .ok (.iconst 1, 1) := by decide +kernel
theorem dX3_fetch_43 : decode cX3_fetch 43 = .ok (.iadd, 1) := by decide +kernel
theorem dX3_fetch_44 : decode cX3_fetch 44 = .ok (.putfield 56, 3) := by decide +kernel
theorem dX3_fetch_47 : decode cX3_fetch 47 = .ok (.iload_n 2, 1) := by decide +kernel
theorem dX3_fetch_48 : decode cX3_fetch 48 = .ok (.ireturn, 1) := by decide +kernel
theorem dX3_release_0 : decode cX3_release 0 = .ok (.iload_n 1, 1) := by decide +kernel
theorem dX3_release_1 : decode cX3_release 1 = .ok (.bipush 32, 2) := by decide +kernel
theorem dX3_release_3 : decode cX3_release 3 = .ok (.invokestatic 41, 3) := by decide +kernel
theorem dX3_release_6 : decode cX3_release 6 = .ok (.aload_n 0, 1) := by decide +kernel
theorem dX3_release_7 : decode cX3_release 7 = .ok (.iload_n 1, 1) := by decide +kernel
theorem dX3_release_8 : decode cX3_release 8 = .ok (.invokevirtual 61, 3) := by decide +kernel
theorem dX3_release_11 : decode cX3_release 11 = .ok (.astore_n 2, 1) := by decide +kernel
theorem dX3_release_12 : decode cX3_release 12 = .ok (.aload_n 2, 1) := by decide +kernel
theorem dX3_release_13 : decode cX3_release 13 = .ok (.dup, 1) := by decide +kernel
theorem dX3_release_14 : decode cX3_release 14 = .ok (.getfield 56, 3) := by decide +kernel
theorem dX3_release_17 : decode cX3_release 17 = .ok (.iconst 1, 1) := by decide +kernel
theorem dX3_release_18 : decode cX3_release 18 = .ok (.isub, 1) := by decide +kernel
theorem dX3_release_19 : decode cX3_release 19 = .ok (.putfield 56, 3) := by decide +kernel
theorem dX3_release_22 : decode cX3_release 22 = .ok (.aload_n 2, 1) := by decide +kernel
theorem dX3_release_23 : decode cX3_release 23 = .ok (.getfield 56, 3) := by decide +kernel
theorem dX3_release_26 : decode cX3_release 26 = .ok (.ireturn, 1) := by decide +kernel
theorem dX3_get_0 : decode cX3_get 0 = .ok (.iload_n 1, 1) := by decide +kernel
theorem dX3_get_1 : decode cX3_get 1 = .ok (.bipush 32, 2) := by decide +kernel
theorem dX3_get_3 : decode cX3_get 3 = .ok (.invokestatic 41, 3) := by decide +kernel
theorem dX3_get_6 : decode cX3_get 6 = .ok (.iload_n 2, 1) := by decide +kernel
theorem dX3_get_7 : decode cX3_get 7 = .ok (.bipush 8, 2) := by decide +kernel
theorem dX3_get_9 : decode cX3_get 9 = .ok (.invokestatic 41, 3) := by decide +kernel
theorem dX3_get_12 : decode cX3_get 12 = .ok (.aload_n 0, 1) := by decide +kernel
theorem dX3_get_13 : decode cX3_get 13 = .ok (.iload_n 1, 1) := by decide +kernel
theorem dX3_get_14 : decode cX3_get 14 = .ok (.invokevirtual 61, 3) := by decide +kernel
theorem dX3_get_17 : decode cX3_get 17 = .ok (.getfield 65, 3) := by decide +kernel
theorem dX3_get_20 : decode cX3_get 20 = .ok (.iload_n 2, 1) := by decide +kernel
theorem dX3_get_21 : decode cX3_get 21 = .ok (.iaload, 1) := by decide +kernel
theorem dX3_get_22 : decode cX3_get 22 = .ok (.ireturn, 1) := by decide +kernel
theorem dX3_begin_0 : decode cX3_begin 0 = .ok (.aload_n 0, 1) := by decide +kernel
theorem dX3_begin_1 : decode cX3_begin 1 = .ok (.invokevirtual 69, 3) := by decide +kernel
theorem dX3_begin_4 : decode cX3_begin 4 = .ok (.istore_n 1, 1) := by decide +kernel
theorem dX3_begin_5 : decode cX3_begin 5 = .ok (.iload_n 1, 1) := by decide +kernel
theorem dX3_begin_6 : decode cX3_begin 6 = .ok (.ifCond .lt 19, 3) := by decide +kernel
theorem dX3_begin_9 : decode cX3_begin 9 = .ok (.aload_n 0, 1) := by decide +kernel
theorem dX3_begin_10 : decode cX3_begin 10 = .ok (.getfield 30, 3) := by decide +kernel
theorem dX3_begin_13 : decode cX3_begin 13 = .ok (.iconst 2, 1) := by decide +kernel
theorem dX3_begin_14 : decode cX3_begin 14 = .ok (.aload_n 0, 1) := by decide +kernel
theorem dX3_begin_15 : decode cX3_begin 15 = .ok (.invokevirtual 73, 3) := by decide +kernel
theorem dX3_begin_18 : decode cX3_begin 18 = .ok (.iadd, 1) := by decide +kernel
theorem dX3_begin_19 : decode cX3_begin 19 = .ok (.invokevirtual 76, 3) := by decide +kernel
theorem dX3_begin_22 : decode cX3_begin 22 = .ok (.ifCond .ne 6, 3) := by decide +kernel
theorem dX3_begin_25 : decode cX3_begin 25 = .ok (.bipush (-2), 2) := by decide +kernel
theorem dX3_begin_27 : decode cX3_begin 27 = .ok (.ireturn, 1) := by decide +kernel
theorem dX3_begin_28 : decode cX3_begin 28 = .ok (.aload_n 0, 1) := by decide +kernel
theorem dX3_begin_29 : decode cX3_begin 29 = .ok (.getfield 34, 3) := by decide +kernel
theorem dX3_begin_32 : decode cX3_begin 32 = .ok (.iload_n 1, 1) := by decide +kernel
theorem dX3_begin_33 : decode cX3_begin 33 = .ok (.iconst 1, 1) := by decide +kernel
theorem dX3_begin_34 : decode cX3_begin 34 = .ok (.bastore, 1) := by decide +kernel
theorem dX3_begin_35 : decode cX3_begin 35 = .ok (.iload_n 1, 1) := by decide +kernel
theorem dX3_begin_36 : decode cX3_begin 36 = .ok (.ireturn, 1) := by decide +kernel
theorem dX3_set_0 : decode cX3_set 0 = .ok (.iload_n 1, 1) := by decide +kernel
theorem dX3_set_1 : decode cX3_set 1 = .ok (.bipush 8, 2) := by decide +kernel
theorem dX3_set_3 : decode cX3_set 3 = .ok (.invokestatic 41, 3) := by decide +kernel
theorem dX3_set_6 : decode cX3_set 6 = .ok (.iload_n 2, 1) := by decide +kernel
theorem dX3_set_7 : decode cX3_set 7 = .ok (.bipush 32, 2) := by decide +kernel
theorem dX3_set_9 : decode cX3_set 9 = .ok (.invokestatic 41, 3) := by decide +kernel
theorem dX3_set_12 : decode cX3_set 12 = .ok (.iload_n 3, 1) := by decide +kernel
theorem dX3_set_13 : decode cX3_set 13 = .ok (.bipush 8, 2) := by decide +kernel
theorem dX3_set_15 : decode cX3_set 15 = .ok (.invokestatic 41, 3) := by decide +kernel
theorem dX3_set_18 : decode cX3_set 18 = .ok (.aload_n 0, 1) := by decide +kernel
theorem dX3_set_19 : decode cX3_set 19 = .ok (.iload_n 1, 1) := by decide +kernel
theorem dX3_set_20 : decode cX3_set 20 = .ok (.invokevirtual 80, 3) := by decide +kernel
theorem dX3_set_23 : decode cX3_set 23 = .ok (.aload_n 0, 1) := by decide +kernel
theorem dX3_set_24 : decode cX3_set 24 = .ok (.iload_n 2, 1) := by decide +kernel
theorem dX3_set_25 : decode cX3_set 25 = .ok (.invokevirtual 61, 3) := by decide +kernel
theorem dX3_set_28 : decode cX3_set 28 = .ok (.astore 5, 2) := by decide +kernel
theorem dX3_set_30 : decode cX3_set 30 = .ok (.aload_n 0, 1) := by decide +kernel
theorem dX3_set_31 : decode cX3_set 31 = .ok (.getfield 30, 3) := by decide +kernel
theorem dX3_set_34 : decode cX3_set 34 = .ok (.iconst 3, 1) := by decide +kernel
theorem dX3_set_35 : decode cX3_set 35 = .ok (.aload_n 0, 1) := by decide +kernel
theorem dX3_set_36 : decode cX3_set 36 = .ok (.invokevirtual 73, 3) := by decide +kernel
theorem dX3_set_39 : decode cX3_set 39 = .ok (.iadd, 1) := by decide +kernel
theorem dX3_set_40 : decode cX3_set 40 = .ok (.invokevirtual 76, 3) := by decide +kernel
theorem dX3_set_43 : decode cX3_set 43 = .ok (.ifCond .ne 6, 3) := by decide +kernel
theorem dX3_set_46 : decode cX3_set 46 = .ok (.bipush (-2), 2) := by decide +kernel
theorem dX3_set_48 : decode cX3_set 48 = .ok (.ireturn, 1) := by decide +kernel
theorem dX3_set_49 : decode cX3_set 49 = .ok (.aload_n 0, 1) := by decide +kernel
theorem dX3_set_50 : decode cX3_set 50 = .ok (.getfield 30, 3) := by decide +kernel
theorem dX3_set_53 : decode cX3_set 53 = .ok (.iconst 0, 1) := by decide +kernel
theorem dX3_set_54 : decode cX3_set 54 = .ok (.iload_n 1, 1) := by decide +kernel
theorem dX3_set_55 : decode cX3_set 55 = .ok (.iload_n 2, 1) := by decide +kernel
theorem dX3_set_56 : decode cX3_set 56 = .ok (.iload_n 3, 1) := by decide +kernel
theorem dX3_set_57 : decode cX3_set 57 = .ok (.aload 5, 2) := by decide +kernel
theorem dX3_set_59 : decode cX3_set 59 = .ok (.getfield 65, 3) := by decide +kernel
theorem dX3_set_62 : decode cX3_set 62 = .ok (.iload_n 3, 1) := by decide +kernel
theorem dX3_set_63 : decode cX3_set 63 = .ok (.iaload, 1) := by decide +kernel
theorem dX3_set_64 : decode cX3_set 64 = .ok (.iload 4, 2) := by decide +kernel
theorem dX3_set_66 : decode cX3_set 66 = .ok (.iconst (-1), 1) := by decide +kernel
theorem dX3_set_67 : decode cX3_set 67 = .ok (.invokevirtual 83, 3) := by decide +kernel
theorem dX3_set_70 : decode cX3_set 70 = .ok (.istore 6, 2) := by decide +kernel
theorem dX3_set_72 : decode cX3_set 72 = .ok (.aload 5, 2) := by decide +kernel
theorem dX3_set_74 : decode cX3_set 74 = .ok (.iload_n 3, 1) := by decide +kernel
theorem dX3_set_75 : decode cX3_set 75 = .ok (.iload 4, 2) := by decide +kernel
theorem dX3_set_77 : decode cX3_set 77 = .ok (.iload 6, 2) := by decide +kernel
theorem dX3_set_79 : decode cX3_set 79 = .ok (.invokevirtual 87, 3) := by decide +kernel
theorem dX3_set_82 : decode cX3_set 82 = .ok (.iload 6, 2) := by decide +kernel
theorem dX3_set_84 : decode cX3_set 84 = .ok (.ireturn, 1) := by decide +kernel
theorem dX3_commit_0 : decode cX3_commit 0 = .ok (.iload_n 1, 1) := by decide +kernel
theorem dX3_commit_1 : decode cX3_commit 1 = .ok (.bipush 8, 2) := by decide +kernel
theorem dX3_commit_3 : decode cX3_commit 3 = .ok (.invokestatic 41, 3) := by decide +kernel
theorem dX3_commit_6 : decode cX3_commit 6 = .ok (.aload_n 0, 1) := by decide +kernel
theorem dX3_commit_7 : decode cX3_commit 7 = .ok (.iload_n 1, 1) := by decide +kernel
theorem dX3_commit_8 : decode cX3_commit 8 = .ok (.invokevirtual 80, 3) := by decide +kernel
theorem dX3_commit_11 : decode cX3_commit 11 = .ok (.aload_n 0, 1) := by decide +kernel
theorem dX3_commit_12 : decode cX3_commit 12 = .ok (.getfield 30, 3) := by decide +kernel
theorem dX3_commit_15 : decode cX3_commit 15 = .ok (.iconst 2, 1) := by decide +kernel
theorem dX3_commit_16 : decode cX3_commit 16 = .ok (.iload_n 1, 1) := by decide +kernel
theorem dX3_commit_17 : decode cX3_commit 17 = .ok (.invokevirtual 91, 3) := by decide +kernel
theorem dX3_commit_20 : decode cX3_commit 20 = .ok (.istore_n 2, 1) := by decide +kernel
theorem dX3_commit_21 : decode cX3_commit 21 = .ok (.aload_n 0, 1) := by decide +kernel
theorem dX3_commit_22 : decode cX3_commit 22 = .ok (.getfield 30, 3) := by decide +kernel
theorem dX3_commit_25 : decode cX3_commit 25 = .ok (.iload_n 2, 1) := by decide +kernel
theorem dX3_commit_26 : decode cX3_commit 26 = .ok (.invokevirtual 94, 3) := by decide +kernel
theorem dX3_commit_29 : decode cX3_commit 29 = .ok (.aload_n 0, 1) := by decide +kernel
theorem dX3_commit_30 : decode cX3_commit 30 = .ok (.getfield 34, 3) := by decide +kernel
theorem dX3_commit_33 : decode cX3_commit 33 = .ok (.iload_n 1, 1) := by decide +kernel
theorem dX3_commit_34 : decode cX3_commit 34 = .ok (.iconst 0, 1) := by decide +kernel
theorem dX3_commit_35 : decode cX3_commit 35 = .ok (.bastore, 1) := by decide +kernel
theorem dX3_commit_36 : decode cX3_commit 36 = .ok (.iload_n 2, 1) := by decide +kernel
theorem dX3_commit_37 : decode cX3_commit 37 = .ok (.ireturn, 1) := by decide +kernel
theorem dX3_abort_0 : decode cX3_abort 0 = .ok (.iload_n 1, 1) := by decide +kernel
theorem dX3_abort_1 : decode cX3_abort 1 = .ok (.bipush 8, 2) := by decide +kernel
theorem dX3_abort_3 : decode cX3_abort 3 = .ok (.invokestatic 41, 3) := by decide +kernel
theorem dX3_abort_6 : decode cX3_abort 6 = .ok (.aload_n 0, 1) := by decide +kernel
theorem dX3_abort_7 : decode cX3_abort 7 = .ok (.iload_n 1, 1) := by decide +kernel
theorem dX3_abort_8 : decode cX3_abort 8 = .ok (.invokevirtual 97, 3) := by decide +kernel
theorem dX3_abort_11 : decode cX3_abort 11 = .ok (.aload_n 0, 1) := by decide +kernel
theorem dX3_abort_12 : decode cX3_abort 12 = .ok (.getfield 38, 3) := by decide +kernel
theorem dX3_abort_15 : decode cX3_abort 15 = .ok (.iload_n 1, 1) := by decide +kernel
theorem dX3_abort_16 : decode cX3_abort 16 = .ok (.iconst 1, 1) := by decide +kernel
theorem dX3_abort_17 : decode cX3_abort 17 = .ok (.bastore, 1) := by decide +kernel
theorem dX3_abort_18 : decode cX3_abort 18 = .ok (.iconst 0, 1) := by decide +kernel
theorem dX3_abort_19 : decode cX3_abort 19 = .ok (.istore_n 2, 1) := by decide +kernel
theorem dX3_abort_20 : decode cX3_abort 20 = .ok (.aload_n 0, 1) := by decide +kernel
theorem dX3_abort_21 : decode cX3_abort 21 = .ok (.getfield 30, 3) := by decide +kernel
theorem dX3_abort_24 : decode cX3_abort 24 = .ok (.getfield 100, 3) := by decide +kernel
theorem dX3_abort_27 : decode cX3_abort 27 = .ok (.istore_n 3, 1) := by decide +kernel
theorem dX3_abort_28 : decode cX3_abort 28 = .ok (.iload_n 3, 1) := by decide +kernel
theorem dX3_abort_29 : decode cX3_abort 29 = .ok (.iconst 1, 1) := by decide +kernel
theorem dX3_abort_30 : decode cX3_abort 30 = .ok (.if_icmp .lt 47, 3) := by decide +kernel
theorem dX3_abort_33 : decode cX3_abort 33 = .ok (.aload_n 0, 1) := by decide +kernel
theorem dX3_abort_34 : decode cX3_abort 34 = .ok (.getfield 30, 3) := by decide +kernel
theorem dX3_abort_37 : decode cX3_abort 37 = .ok (.iload_n 3, 1) := by decide +kernel
theorem dX3_abort_38 : decode cX3_abort 38 = .ok (.invokevirtual 103, 3) := by decide +kernel
theorem dX3_abort_41 : decode cX3_abort 41 = .ok (.ifCond .eq 30, 3) := by decide +kernel
theorem dX3_abort_44 : decode cX3_abort 44 = .ok (.aload_n 0, 1) := by decide +kernel
theorem dX3_abort_45 : decode cX3_abort 45 = .ok (.getfield 30, 3) := by decide +kernel
theorem dX3_abort_48 : decode cX3_abort 48 = .ok (.iload_n 3, 1) := by decide +kernel
theorem dX3_abort_49 : decode cX3_abort 49 = .ok (.iconst 1, 1) := by decide +kernel
theorem dX3_abort_50 : decode cX3_abort 50 = .ok (.invokevirtual 106, 3) := by decide +kernel
theorem dX3_abort_53 : decode cX3_abort 53 = .ok (.iload_n 1, 1) := by decide +kernel
theorem dX3_abort_54 : decode cX3_abort 54 = .ok (.if_icmp .ne 17, 3) := by decide +kernel
theorem dX3_abort_57 : decode cX3_abort 57 = .ok (.aload_n 0, 1) := by decide +kernel
theorem dX3_abort_58 : decode cX3_abort 58 = .ok (.iload_n 3, 1) := by decide +kernel
theorem dX3_abort_59 : decode cX3_abort 59 = .ok (.invokevirtual 109, 3) := by decide +kernel
theorem dX3_abort_62 : decode cX3_abort 62 = .ok (.ifCond .ne 6, 3) := by decide +kernel
theorem dX3_abort_65 : decode cX3_abort 65 = .ok (.bipush (-2), 2) := by decide +kernel
theorem dX3_abort_67 : decode cX3_abort 67 = .ok (.ireturn, 1) := by decide +kernel
theorem dX3_abort_68 : decode cX3_abort 68 = .ok (.iinc 2 1, 3) := by decide +kernel
theorem dX3_abort_71 : decode cX3_abort 71 = .ok (.iinc 3 (-1), 3) := by decide +kernel
theorem dX3_abort_74 : decode cX3_abort 74 = .ok (.goto (-46), 3) := by decide +kernel
theorem dX3_abort_77 : decode cX3_abort 77 = .ok (.aload_n 0, 1) := by decide +kernel
theorem dX3_abort_78 : decode cX3_abort 78 = .ok (.getfield 30, 3) := by decide +kernel
theorem dX3_abort_81 : decode cX3_abort 81 = .ok (.iconst 3, 1) := by decide +kernel
theorem dX3_abort_82 : decode cX3_abort 82 = .ok (.iload_n 1, 1) := by decide +kernel
theorem dX3_abort_83 : decode cX3_abort 83 = .ok (.invokevirtual 91, 3) := by decide +kernel
theorem dX3_abort_86 : decode cX3_abort 86 = .ok (.pop, 1) := by decide +kernel
theorem dX3_abort_87 : decode cX3_abort 87 = .ok (.aload_n 0, 1) := by decide +kernel
theorem dX3_abort_88 : decode cX3_abort 88 = .ok (.getfield 34, 3) := by decide +kernel
theorem dX3_abort_91 : decode cX3_abort 91 = .ok (.iload_n 1, 1) := by decide +kernel
theorem dX3_abort_92 : decode cX3_abort 92 = .ok (.iconst 0, 1) := by decide +kernel
theorem dX3_abort_93 : decode cX3_abort 93 = .ok (.bastore, 1) := by decide +kernel
theorem dX3_abort_94 : decode cX3_abort 94 = .ok (.aload_n 0, 1) := by decide +kernel
theorem dX3_abort_95 : decode cX3_abort 95 = .ok (.getfield 38, 3) := by decide +kernel
theorem dX3_abort_98 : decode cX3_abort 98 = .ok (.iload_n 1, 1) := by decide +kernel
theorem dX3_abort_99 : decode cX3_abort 99 = .ok (.iconst 0, 1) := by decide +kernel
theorem dX3_abort_100 : decode cX3_abort 100 = .ok (.bastore, 1) := by decide +kernel
theorem dX3_abort_101 : decode cX3_abort 101 = .ok (.iload_n 2, 1) := by decide +kernel
theorem dX3_abort_102 : decode cX3_abort 102 = .ok (.ireturn, 1) := by decide +kernel
theorem dX3_flush_0 : decode cX3_flush 0 = .ok (.iload_n 1, 1) := by decide +kernel
theorem dX3_flush_1 : decode cX3_flush 1 = .ok (.ifCond .ge 11, 3) := by decide +kernel
theorem dX3_flush_4 : decode cX3_flush 4 = .ok (.new 112, 3) := by decide +kernel
theorem dX3_flush_7 : decode cX3_flush 7 = .ok (.dup, 1) := by decide +kernel
theorem dX3_flush_8 : decode cX3_flush 8 = .ok (.invokespecial 114, 3) := by decide +kernel
theorem dX3_flush_11 : decode cX3_flush 11 = .ok (.athrow, 1) := by decide +kernel
theorem dX3_flush_12 : decode cX3_flush 12 = .ok (.aload_n 0, 1) := by decide +kernel
theorem dX3_flush_13 : decode cX3_flush 13 = .ok (.getfield 30, 3) := by decide +kernel
theorem dX3_flush_16 : decode cX3_flush 16 = .ok (.iload_n 1, 1) := by decide +kernel
theorem dX3_flush_17 : decode cX3_flush 17 = .ok (.invokevirtual 94, 3) := by decide +kernel
theorem dX3_flush_20 : decode cX3_flush 20 = .ok (.aload_n 0, 1) := by decide +kernel
theorem dX3_flush_21 : decode cX3_flush 21 = .ok (.getfield 30, 3) := by decide +kernel
theorem dX3_flush_24 : decode cX3_flush 24 = .ok (.getfield 45, 3) := by decide +kernel
theorem dX3_flush_27 : decode cX3_flush 27 = .ok (.ireturn, 1) := by decide +kernel
theorem dX3_clean_0 : decode cX3_clean 0 = .ok (.iload_n 1, 1) := by decide +kernel
theorem dX3_clean_1 : decode cX3_clean 1 = .ok (.bipush 32, 2) := by decide +kernel
theorem dX3_clean_3 : decode cX3_clean 3 = .ok (.invokestatic 41, 3) := by decide +kernel
theorem dX3_clean_6 : decode cX3_clean 6 = .ok (.aload_n 0, 1) := by decide +kernel
theorem dX3_clean_7 : decode cX3_clean 7 = .ok (.getfield 23, 3) := by decide +kernel
theorem dX3_clean_10 : decode cX3_clean 10 = .ok (.iload_n 1, 1) := by decide +kernel
theorem dX3_clean_11 : decode cX3_clean 11 = .ok (.invokevirtual 115, 3) := by decide +kernel
theorem dX3_clean_14 : decode cX3_clean 14 = .ok (.istore_n 2, 1) := by decide +kernel
theorem dX3_clean_15 : decode cX3_clean 15 = .ok (.iload_n 2, 1) := by decide +kernel
theorem dX3_clean_16 : decode cX3_clean 16 = .ok (.ifCond .ge 5, 3) := by decide +kernel
theorem dX3_clean_19 : decode cX3_clean 19 = .ok (.iconst 0, 1) := by decide +kernel
theorem dX3_clean_20 : decode cX3_clean 20 = .ok (.ireturn, 1) := by decide +kernel
theorem dX3_clean_21 : decode cX3_clean 21 = .ok (.aload_n 0, 1) := by decide +kernel
theorem dX3_clean_22 : decode cX3_clean 22 = .ok (.getfield 23, 3) := by decide +kernel
theorem dX3_clean_25 : decode cX3_clean 25 = .ok (.getfield 52, 3) := by decide +kernel
theorem dX3_clean_28 : decode cX3_clean 28 = .ok (.iload_n 2, 1) := by decide +kernel
theorem dX3_clean_29 : decode cX3_clean 29 = .ok (.aaload, 1) := by decide +kernel
theorem dX3_clean_30 : decode cX3_clean 30 = .ok (.astore_n 3, 1) := by decide +kernel
theorem dX3_clean_31 : decode cX3_clean 31 = .ok (.aload_n 3, 1) := by decide +kernel
theorem dX3_clean_32 : decode cX3_clean 32 = .ok (.getfield 119, 3) := by decide +kernel
theorem dX3_clean_35 : decode cX3_clean 35 = .ok (.ifCond .eq 20, 3) := by decide +kernel
theorem dX3_clean_38 : decode cX3_clean 38 = .ok (.aload_n 3, 1) := by decide +kernel
theorem dX3_clean_39 : decode cX3_clean 39 = .ok (.getfield 65, 3) := by decide +kernel
theorem dX3_clean_42 : decode cX3_clean 42 = .ok (.bipush 8, 2) := by decide +kernel
theorem dX3_clean_44 : decode cX3_clean 44 = .ok (.iaload, 1) := by decide +kernel
theorem dX3_clean_45 : decode cX3_clean 45 = .ok (.aload_n 0, 1) := by decide +kernel
theorem dX3_clean_46 : decode cX3_clean 46 = .ok (.getfield 30, 3) := by decide +kernel
theorem dX3_clean_49 : decode cX3_clean 49 = .ok (.getfield 45, 3) := by decide +kernel
theorem dX3_clean_52 : decode cX3_clean 52 = .ok (.if_icmp .le 5, 3) := by decide +kernel
theorem dX3_clean_55 : decode cX3_clean 55 = .ok (.iconst 0, 1) := by decide +kernel
theorem dX3_clean_56 : decode cX3_clean 56 = .ok (.ireturn, 1) := by decide +kernel
theorem dX3_clean_57 : decode cX3_clean 57 = .ok (.aload_n 0, 1) := by decide +kernel
theorem dX3_clean_58 : decode cX3_clean 58 = .ok (.getfield 23, 3) := by decide +kernel
theorem dX3_clean_61 : decode cX3_clean 61 = .ok (.aload_n 3, 1) := by decide +kernel
theorem dX3_clean_62 : decode cX3_clean 62 = .ok (.invokevirtual 123, 3) := by decide +kernel
theorem dX3_clean_65 : decode cX3_clean 65 = .ok (.iconst 1, 1) := by decide +kernel
theorem dX3_clean_66 : decode cX3_clean 66 = .ok (.ireturn, 1) := by decide +kernel
theorem dX3_crash_0 : decode cX3_crash 0 = .ok (.aload_n 0, 1) := by decide +kernel
theorem dX3_crash_1 : decode cX3_crash 1 = .ok (.getfield 30, 3) := by decide +kernel
theorem dX3_crash_4 : decode cX3_crash 4 = .ok (.invokevirtual 127, 3) := by decide +kernel
theorem dX3_crash_7 : decode cX3_crash 7 = .ok (.istore_n 1, 1) := by decide +kernel
theorem dX3_crash_8 : decode cX3_crash 8 = .ok (.aload_n 0, 1) := by decide +kernel
theorem dX3_crash_9 : decode cX3_crash 9 = .ok (.getfield 23, 3) := by decide +kernel
theorem dX3_crash_12 : decode cX3_crash 12 = .ok (.invokevirtual 130, 3) := by decide +kernel
theorem dX3_crash_15 : decode cX3_crash 15 = .ok (.aload_n 0, 1) := by decide +kernel
theorem dX3_crash_16 : decode cX3_crash 16 = .ok (.invokevirtual 133, 3) := by decide +kernel
theorem dX3_crash_19 : decode cX3_crash 19 = .ok (.aload_n 0, 1) := by decide +kernel
theorem dX3_crash_20 : decode cX3_crash 20 = .ok (.invokevirtual 136, 3) := by decide +kernel
theorem dX3_crash_23 : decode cX3_crash 23 = .ok (.aload_n 0, 1) := by decide +kernel
theorem dX3_crash_24 : decode cX3_crash 24 = .ok (.aload_n 0, 1) := by decide +kernel
theorem dX3_crash_25 : decode cX3_crash 25 = .ok (.invokevirtual 139, 3) := by decide +kernel
theorem dX3_crash_28 : decode cX3_crash 28 = .ok (.putfield 142, 3) := by decide +kernel
theorem dX3_crash_31 : decode cX3_crash 31 = .ok (.aload_n 0, 1) := by decide +kernel
theorem dX3_crash_32 : decode cX3_crash 32 = .ok (.invokevirtual 145, 3) := by decide +kernel
theorem dX3_crash_35 : decode cX3_crash 35 = .ok (.aload_n 0, 1) := by decide +kernel
theorem dX3_crash_36 : decode cX3_crash 36 = .ok (.getfield 30, 3) := by decide +kernel
theorem dX3_crash_39 : decode cX3_crash 39 = .ok (.aload_n 0, 1) := by decide +kernel
theorem dX3_crash_40 : decode cX3_crash 40 = .ok (.getfield 30, 3) := by decide +kernel
theorem dX3_crash_43 : decode cX3_crash 43 = .ok (.getfield 100, 3) := by decide +kernel
theorem dX3_crash_46 : decode cX3_crash 46 = .ok (.invokevirtual 94, 3) := by decide +kernel
theorem dX3_crash_49 : decode cX3_crash 49 = .ok (.aload_n 0, 1) := by decide +kernel
theorem dX3_crash_50 : decode cX3_crash 50 = .ok (.dup, 1) := by decide +kernel
theorem dX3_crash_51 : decode cX3_crash 51 = .ok (.getfield 148, 3) := by decide +kernel
theorem dX3_crash_54 : decode cX3_crash 54 = .ok (.iconst 1, 1) := by decide +kernel
theorem dX3_crash_55 : decode cX3_crash 55 = .ok (.iadd, 1) := by decide +kernel
theorem dX3_crash_56 : decode cX3_crash 56 = .ok (.putfield 148, 3) := by decide +kernel
theorem dX3_crash_59 : decode cX3_crash 59 = .ok (.iload_n 1, 1) := by decide +kernel
theorem dX3_crash_60 : decode cX3_crash 60 = .ok (.ireturn, 1) := by decide +kernel
theorem dX3_disk_0 : decode cX3_disk 0 = .ok (.iload_n 1, 1) := by decide +kernel
theorem dX3_disk_1 : decode cX3_disk 1 = .ok (.bipush 32, 2) := by decide +kernel
theorem dX3_disk_3 : decode cX3_disk 3 = .ok (.invokestatic 41, 3) := by decide +kernel
theorem dX3_disk_6 : decode cX3_disk 6 = .ok (.iload_n 2, 1) := by decide +kernel
theorem dX3_disk_7 : decode cX3_disk 7 = .ok (.bipush 9, 2) := by decide +kernel
theorem dX3_disk_9 : decode cX3_disk 9 = .ok (.invokestatic 41, 3) := by decide +kernel
theorem dX3_disk_12 : decode cX3_disk 12 = .ok (.aload_n 0, 1) := by decide +kernel
theorem dX3_disk_13 : decode cX3_disk 13 = .ok (.getfield 23, 3) := by decide +kernel
theorem dX3_disk_16 : decode cX3_disk 16 = .ok (.getfield 151, 3) := by decide +kernel
theorem dX3_disk_19 : decode cX3_disk 19 = .ok (.iload_n 1, 1) := by decide +kernel
theorem dX3_disk_20 : decode cX3_disk 20 = .ok (.aaload, 1) := by decide +kernel
theorem dX3_disk_21 : decode cX3_disk 21 = .ok (.iload_n 2, 1) := by decide +kernel
theorem dX3_disk_22 : decode cX3_disk 22 = .ok (.iaload, 1) := by decide +kernel
theorem dX3_disk_23 : decode cX3_disk 23 = .ok (.ireturn, 1) := by decide +kernel
theorem dX3_frame_0 : decode cX3_frame 0 = .ok (.iload_n 1, 1) := by decide +kernel
theorem dX3_frame_1 : decode cX3_frame 1 = .ok (.aload_n 0, 1) := by decide +kernel
theorem dX3_frame_2 : decode cX3_frame 2 = .ok (.getfield 23, 3) := by decide +kernel
theorem dX3_frame_5 : decode cX3_frame 5 = .ok (.getfield 52, 3) := by decide +kernel
theorem dX3_frame_8 : decode cX3_frame 8 = .ok (.arraylength, 1) := by decide +kernel
theorem dX3_frame_9 : decode cX3_frame 9 = .ok (.invokestatic 41, 3) := by decide +kernel
theorem dX3_frame_12 : decode cX3_frame 12 = .ok (.aload_n 0, 1) := by decide +kernel
theorem dX3_frame_13 : decode cX3_frame 13 = .ok (.getfield 23, 3) := by decide +kernel
theorem dX3_frame_16 : decode cX3_frame 16 = .ok (.getfield 52, 3) := by decide +kernel
theorem dX3_frame_19 : decode cX3_frame 19 = .ok (.iload_n 1, 1) := by decide +kernel
theorem dX3_frame_20 : decode cX3_frame 20 = .ok (.aaload, 1) := by decide +kernel
theorem dX3_frame_21 : decode cX3_frame 21 = .ok (.astore_n 3, 1) := by decide +kernel
theorem dX3_frame_22 : decode cX3_frame 22 = .ok (.iload_n 2, 1) := by decide +kernel
theorem dX3_frame_23 : decode cX3_frame 23 = .ok (.tableswitch 77 0 4 #[33, 38, 43, 56, 69], 33) := by decide +kernel
theorem dX3_frame_56 : decode cX3_frame 56 = .ok (.aload_n 3, 1) := by decide +kernel
theorem dX3_frame_57 : decode cX3_frame 57 = .ok (.getfield 155, 3) := by decide +kernel
theorem dX3_frame_60 : decode cX3_frame 60 = .ok (.ireturn, 1) := by decide +kernel
theorem dX3_frame_61 : decode cX3_frame 61 = .ok (.aload_n 3, 1) := by decide +kernel
theorem dX3_frame_62 : decode cX3_frame 62 = .ok (.getfield 56, 3) := by decide +kernel
theorem dX3_frame_65 : decode cX3_frame 65 = .ok (.ireturn, 1) := by decide +kernel
theorem dX3_frame_66 : decode cX3_frame 66 = .ok (.aload_n 3, 1) := by decide +kernel
theorem dX3_frame_67 : decode cX3_frame 67 = .ok (.getfield 119, 3) := by decide +kernel
theorem dX3_frame_70 : decode cX3_frame 70 = .ok (.ifCond .eq 7, 3) := by decide +kernel
theorem dX3_frame_73 : decode cX3_frame 73 = .ok (.iconst 1, 1) := by decide +kernel
theorem dX3_frame_74 : decode cX3_frame 74 = .ok (.goto 4, 3) := by decide +kernel
theorem dX3_frame_77 : decode cX3_frame 77 = .ok (.iconst 0, 1) := by decide +kernel
theorem dX3_frame_78 : decode cX3_frame 78 = .ok (.ireturn, 1) := by decide +kernel
theorem dX3_frame_79 : decode cX3_frame 79 = .ok (.aload_n 3, 1) := by decide +kernel
theorem dX3_frame_80 : decode cX3_frame 80 = .ok (.getfield 158, 3) := by decide +kernel
theorem dX3_frame_83 : decode cX3_frame 83 = .ok (.ifCond .eq 7, 3) := by decide +kernel
theorem dX3_frame_86 : decode cX3_frame 86 = .ok (.iconst 1, 1) := by decide +kernel
theorem dX3_frame_87 : decode cX3_frame 87 = .ok (.goto 4, 3) := by decide +kernel
theorem dX3_frame_90 : decode cX3_frame 90 = .ok (.iconst 0, 1) := by decide +kernel
theorem dX3_frame_91 : decode cX3_frame 91 = .ok (.ireturn, 1) := by decide +kernel
theorem dX3_frame_92 : decode cX3_frame 92 = .ok (.aload_n 3, 1) := by decide +kernel
theorem dX3_frame_93 : decode cX3_frame 93 = .ok (.getfield 65, 3) := by decide +kernel
theorem dX3_frame_96 : decode cX3_frame 96 = .ok (.bipush 8, 2) := by decide +kernel
theorem dX3_frame_98 : decode cX3_frame 98 = .ok (.iaload, 1) := by decide +kernel
theorem dX3_frame_99 : decode cX3_frame 99 = .ok (.ireturn, 1) := by decide +kernel
theorem dX3_frame_100 : decode cX3_frame 100 = .ok (.new 112, 3) := by decide +kernel
theorem dX3_frame_103 : decode cX3_frame 103 = .ok (.dup, 1) := by decide +kernel
theorem dX3_frame_104 : decode cX3_frame 104 = .ok (.invokespecial 114, 3) := by decide +kernel
theorem dX3_frame_107 : decode cX3_frame 107 = .ok (.athrow, 1) := by decide +kernel
theorem dX3_log_0 : decode cX3_log 0 = .ok (.iload_n 2, 1) := by decide +kernel
theorem dX3_log_1 : decode cX3_log 1 = .ok (.bipush 7, 2) := by decide +kernel
theorem dX3_log_3 : decode cX3_log 3 = .ok (.invokestatic 41, 3) := by decide +kernel
theorem dX3_log_6 : decode cX3_log 6 = .ok (.iload_n 1, 1) := by decide +kernel
theorem dX3_log_7 : decode cX3_log 7 = .ok (.iconst 1, 1) := by decide +kernel
theorem dX3_log_8 : decode cX3_log 8 = .ok (.if_icmp .lt 14, 3) := by decide +kernel
theorem dX3_log_11 : decode cX3_log 11 = .ok (.iload_n 1, 1) := by decide +kernel
theorem dX3_log_12 : decode cX3_log 12 = .ok (.aload_n 0, 1) := by decide +kernel
theorem dX3_log_13 : decode cX3_log 13 = .ok (.getfield 30, 3) := by decide +kernel
theorem dX3_log_16 : decode cX3_log 16 = .ok (.getfield 100, 3) := by decide +kernel
theorem dX3_log_19 : decode cX3_log 19 = .ok (.if_icmp .le 11, 3) := by decide +kernel
theorem dX3_log_22 : decode cX3_log 22 = .ok (.new 112, 3) := by decide +kernel
theorem dX3_log_25 : decode cX3_log 25 = .ok (.dup, 1) := by decide +kernel
theorem dX3_log_26 : decode cX3_log 26 = .ok (.invokespecial 114, 3) := by decide +kernel
theorem dX3_log_29 : decode cX3_log 29 = .ok (.athrow, 1) := by decide +kernel
theorem dX3_log_30 : decode cX3_log 30 = .ok (.aload_n 0, 1) := by decide +kernel
theorem dX3_log_31 : decode cX3_log 31 = .ok (.getfield 30, 3) := by decide +kernel
theorem dX3_log_34 : decode cX3_log 34 = .ok (.iload_n 1, 1) := by decide +kernel
theorem dX3_log_35 : decode cX3_log 35 = .ok (.iload_n 2, 1) := by decide +kernel
theorem dX3_log_36 : decode cX3_log 36 = .ok (.invokevirtual 106, 3) := by decide +kernel
theorem dX3_log_39 : decode cX3_log 39 = .ok (.ireturn, 1) := by decide +kernel
theorem dX3_count_0 : decode cX3_count 0 = .ok (.iload_n 1, 1) := by decide +kernel
theorem dX3_count_1 : decode cX3_count 1 = .ok (.tableswitch 102 0 7 #[47, 55, 63, 68, 76, 84, 92, 97], 47) := by decide +kernel
theorem dX3_count_48 : decode cX3_count 48 = .ok (.aload_n 0, 1) := by decide +kernel
theorem dX3_count_49 : decode cX3_count 49 = .ok (.getfield 30, 3) := by decide +kernel
theorem dX3_count_52 : decode cX3_count 52 = .ok (.getfield 100, 3) := by decide +kernel
theorem dX3_count_55 : decode cX3_count 55 = .ok (.ireturn, 1) := by decide +kernel
theorem dX3_count_56 : decode cX3_count 56 = .ok (.aload_n 0, 1) := by decide +kernel
theorem dX3_count_57 : decode cX3_count 57 = .ok (.getfield 30, 3) := by decide +kernel
theorem dX3_count_60 : decode cX3_count 60 = .ok (.getfield 45, 3) := by decide +kernel
theorem dX3_count_63 : decode cX3_count 63 = .ok (.ireturn, 1) := by decide +kernel
theorem dX3_count_64 : decode cX3_count 64 = .ok (.aload_n 0, 1) := by decide +kernel
theorem dX3_count_65 : decode cX3_count 65 = .ok (.invokevirtual 73, 3) := by decide +kernel
theorem dX3_count_68 : decode cX3_count 68 = .ok (.ireturn, 1) := by decide +kernel
theorem dX3_count_69 : decode cX3_count 69 = .ok (.aload_n 0, 1) := by decide +kernel
theorem dX3_count_70 : decode cX3_count 70 = .ok (.getfield 23, 3) := by decide +kernel
theorem dX3_count_73 : decode cX3_count 73 = .ok (.getfield 161, 3) := by decide +kernel
theorem dX3_count_76 : decode cX3_count 76 = .ok (.ireturn, 1) := by decide +kernel
theorem dX3_count_77 : decode cX3_count 77 = .ok (.aload_n 0, 1) := by decide +kernel
theorem dX3_count_78 : decode cX3_count 78 = .ok (.getfield 23, 3) := by decide +kernel
theorem dX3_count_81 : decode cX3_count 81 = .ok (.getfield 164, 3) := by decide +kernel
theorem dX3_count_84 : decode cX3_count 84 = .ok (.ireturn, 1) := by decide +kernel
theorem dX3_count_85 : decode cX3_count 85 = .ok (.aload_n 0, 1) := by decide +kernel
theorem dX3_count_86 : decode cX3_count 86 = .ok (.getfield 23, 3) := by decide +kernel
theorem dX3_count_89 : decode cX3_count 89 = .ok (.getfield 167, 3) := by decide +kernel
theorem dX3_count_92 : decode cX3_count 92 = .ok (.ireturn, 1) := by decide +kernel
theorem dX3_count_93 : decode cX3_count 93 = .ok (.aload_n 0, 1) := by decide +kernel
theorem dX3_count_94 : decode cX3_count 94 = .ok (.getfield 148, 3) := by decide +kernel
theorem dX3_count_97 : decode cX3_count 97 = .ok (.ireturn, 1) := by decide +kernel
theorem dX3_count_98 : decode cX3_count 98 = .ok (.aload_n 0, 1) := by decide +kernel
theorem dX3_count_99 : decode cX3_count 99 = .ok (.getfield 142, 3) := by decide +kernel
theorem dX3_count_102 : decode cX3_count 102 = .ok (.ireturn, 1) := by decide +kernel
theorem dX3_count_103 : decode cX3_count 103 = .ok (.new 112, 3) := by decide +kernel
theorem dX3_count_106 : decode cX3_count 106 = .ok (.dup, 1) := by decide +kernel
theorem dX3_count_107 : decode cX3_count 107 = .ok (.invokespecial 114, 3) := by decide +kernel
theorem dX3_count_110 : decode cX3_count 110 = .ok (.athrow, 1) := by decide +kernel
theorem dX3_checkBelow_0 : decode cX3_checkBelow 0 = .ok (.iload_n 0, 1) := by decide +kernel
theorem dX3_checkBelow_1 : decode cX3_checkBelow 1 = .ok (.ifCond .lt 8, 3) := by decide +kernel
theorem dX3_checkBelow_4 : decode cX3_checkBelow 4 = .ok (.iload_n 0, 1) := by decide +kernel
theorem dX3_checkBelow_5 : decode cX3_checkBelow 5 = .ok (.iload_n 1, 1) := by decide +kernel
theorem dX3_checkBelow_6 : decode cX3_checkBelow 6 = .ok (.if_icmp .lt 11, 3) := by decide +kernel
theorem dX3_checkBelow_9 : decode cX3_checkBelow 9 = .ok (.new 112, 3) := by decide +kernel
theorem dX3_checkBelow_12 : decode cX3_checkBelow 12 = .ok (.dup, 1) := by decide +kernel
theorem dX3_checkBelow_13 : decode cX3_checkBelow 13 = .ok (.invokespecial 114, 3) := by decide +kernel
theorem dX3_checkBelow_16 : decode cX3_checkBelow 16 = .ok (.athrow, 1) := by decide +kernel
theorem dX3_checkBelow_17 : decode cX3_checkBelow 17 = .ok (.return_, 1) := by decide +kernel
theorem dX3_checkActive_0 : decode cX3_checkActive 0 = .ok (.aload_n 0, 1) := by decide +kernel
theorem dX3_checkActive_1 : decode cX3_checkActive 1 = .ok (.getfield 34, 3) := by decide +kernel
theorem dX3_checkActive_4 : decode cX3_checkActive 4 = .ok (.iload_n 1, 1) := by decide +kernel
theorem dX3_checkActive_5 : decode cX3_checkActive 5 = .ok (.baload, 1) := by decide +kernel
theorem dX3_checkActive_6 : decode cX3_checkActive 6 = .ok (.ifCond .ne 11, 3) := by decide +kernel
theorem dX3_checkActive_9 : decode cX3_checkActive 9 = .ok (.new 170, 3) := by decide +kernel
theorem dX3_checkActive_12 : decode cX3_checkActive 12 = .ok (.dup, 1) := by decide +kernel
theorem dX3_checkActive_13 : decode cX3_checkActive 13 = .ok (.invokespecial 172, 3) := by decide +kernel
theorem dX3_checkActive_16 : decode cX3_checkActive 16 = .ok (.athrow, 1) := by decide +kernel
theorem dX3_checkActive_17 : decode cX3_checkActive 17 = .ok (.return_, 1) := by decide +kernel
theorem dX3_checkGoesOn_0 : decode cX3_checkGoesOn 0 = .ok (.aload_n 0, 1) := by decide +kernel
theorem dX3_checkGoesOn_1 : decode cX3_checkGoesOn 1 = .ok (.iload_n 1, 1) := by decide +kernel
theorem dX3_checkGoesOn_2 : decode cX3_checkGoesOn 2 = .ok (.invokevirtual 97, 3) := by decide +kernel
theorem dX3_checkGoesOn_5 : decode cX3_checkGoesOn 5 = .ok (.aload_n 0, 1) := by decide +kernel
theorem dX3_checkGoesOn_6 : decode cX3_checkGoesOn 6 = .ok (.getfield 38, 3) := by decide +kernel
theorem dX3_checkGoesOn_9 : decode cX3_checkGoesOn 9 = .ok (.iload_n 1, 1) := by decide +kernel
theorem dX3_checkGoesOn_10 : decode cX3_checkGoesOn 10 = .ok (.baload, 1) := by decide +kernel
theorem dX3_checkGoesOn_11 : decode cX3_checkGoesOn 11 = .ok (.ifCond .eq 11, 3) := by decide +kernel
theorem dX3_checkGoesOn_14 : decode cX3_checkGoesOn 14 = .ok (.new 170, 3) := by decide +kernel
theorem dX3_checkGoesOn_17 : decode cX3_checkGoesOn 17 = .ok (.dup, 1) := by decide +kernel
theorem dX3_checkGoesOn_18 : decode cX3_checkGoesOn 18 = .ok (.invokespecial 172, 3) := by decide +kernel
theorem dX3_checkGoesOn_21 : decode cX3_checkGoesOn 21 = .ok (.athrow, 1) := by decide +kernel
theorem dX3_checkGoesOn_22 : decode cX3_checkGoesOn 22 = .ok (.return_, 1) := by decide +kernel
theorem dX3_pinnedFrame_0 : decode cX3_pinnedFrame 0 = .ok (.aload_n 0, 1) := by decide +kernel
theorem dX3_pinnedFrame_1 : decode cX3_pinnedFrame 1 = .ok (.getfield 23, 3) := by decide +kernel
theorem dX3_pinnedFrame_4 : decode cX3_pinnedFrame 4 = .ok (.iload_n 1, 1) := by decide +kernel
theorem dX3_pinnedFrame_5 : decode cX3_pinnedFrame 5 = .ok (.invokevirtual 115, 3) := by decide +kernel
theorem dX3_pinnedFrame_8 : decode cX3_pinnedFrame 8 = .ok (.istore_n 2, 1) := by decide +kernel
theorem dX3_pinnedFrame_9 : decode cX3_pinnedFrame 9 = .ok (.iload_n 2, 1) := by decide +kernel
theorem dX3_pinnedFrame_10 : decode cX3_pinnedFrame 10 = .ok (.ifCond .lt 18, 3) := by decide +kernel
theorem dX3_pinnedFrame_13 : decode cX3_pinnedFrame 13 = .ok (.aload_n 0, 1) := by decide +kernel
theorem dX3_pinnedFrame_14 : decode cX3_pinnedFrame 14 = .ok (.getfield 23, 3) := by decide +kernel
theorem dX3_pinnedFrame_17 : decode cX3_pinnedFrame 17 = .ok (.getfield 52, 3) := by decide +kernel
theorem dX3_pinnedFrame_20 : decode cX3_pinnedFrame 20 = .ok (.iload_n 2, 1) := by decide +kernel
theorem dX3_pinnedFrame_21 : decode cX3_pinnedFrame 21 = .ok (.aaload, 1) := by decide +kernel
theorem dX3_pinnedFrame_22 : decode cX3_pinnedFrame 22 = .ok (.getfield 56, 3) := by decide +kernel
theorem dX3_pinnedFrame_25 : decode cX3_pinnedFrame 25 = .ok (.ifCond .ne 11, 3) := by decide +kernel
theorem dX3_pinnedFrame_28 : decode cX3_pinnedFrame 28 = .ok (.new 170, 3) := by decide +kernel
theorem dX3_pinnedFrame_31 : decode cX3_pinnedFrame 31 = .ok (.dup, 1) := by decide +kernel
theorem dX3_pinnedFrame_32 : decode cX3_pinnedFrame 32 = .ok (.invokespecial 172, 3) := by decide +kernel
theorem dX3_pinnedFrame_35 : decode cX3_pinnedFrame 35 = .ok (.athrow, 1) := by decide +kernel
theorem dX3_pinnedFrame_36 : decode cX3_pinnedFrame 36 = .ok (.aload_n 0, 1) := by decide +kernel
theorem dX3_pinnedFrame_37 : decode cX3_pinnedFrame 37 = .ok (.getfield 23, 3) := by decide +kernel
theorem dX3_pinnedFrame_40 : decode cX3_pinnedFrame 40 = .ok (.getfield 52, 3) := by decide +kernel
theorem dX3_pinnedFrame_43 : decode cX3_pinnedFrame 43 = .ok (.iload_n 2, 1) := by decide +kernel
theorem dX3_pinnedFrame_44 : decode cX3_pinnedFrame 44 = .ok (.aaload, 1) := by decide +kernel
theorem dX3_pinnedFrame_45 : decode cX3_pinnedFrame 45 = .ok (.areturn, 1) := by decide +kernel
theorem dX3_leastInactive_0 : decode cX3_leastInactive 0 = .ok (.iconst 0, 1) := by decide +kernel
theorem dX3_leastInactive_1 : decode cX3_leastInactive 1 = .ok (.istore_n 1, 1) := by decide +kernel
theorem dX3_leastInactive_2 : decode cX3_leastInactive 2 = .ok (.iload_n 1, 1) := by decide +kernel
theorem dX3_leastInactive_3 : decode cX3_leastInactive 3 = .ok (.bipush 8, 2) := by decide +kernel
theorem dX3_leastInactive_5 : decode cX3_leastInactive 5 = .ok (.if_icmp .ge 20, 3) := by decide +kernel
theorem dX3_leastInactive_8 : decode cX3_leastInactive 8 = .ok (.aload_n 0, 1) := by decide +kernel
theorem dX3_leastInactive_9 : decode cX3_leastInactive 9 = .ok (.getfield 34, 3) := by decide +kernel
theorem dX3_leastInactive_12 : decode cX3_leastInactive 12 = .ok (.iload_n 1, 1) := by decide +kernel
theorem dX3_leastInactive_13 : decode cX3_leastInactive 13 = .ok (.baload, 1) := by decide +kernel
theorem dX3_leastInactive_14 : decode cX3_leastInactive 14 = .ok (.ifCond .ne 5, 3) := by decide +kernel
theorem dX3_leastInactive_17 : decode cX3_leastInactive 17 = .ok (.iload_n 1, 1) := by decide +kernel
theorem dX3_leastInactive_18 : decode cX3_leastInactive 18 = .ok (.ireturn, 1) := by decide +kernel
theorem dX3_leastInactive_19 : decode cX3_leastInactive 19 = .ok (.iinc 1 1, 3) := by decide +kernel
theorem dX3_leastInactive_22 : decode cX3_leastInactive 22 = .ok (.goto (-20), 3) := by decide +kernel
theorem dX3_leastInactive_25 : decode cX3_leastInactive 25 = .ok (.iconst (-1), 1) := by decide +kernel
theorem dX3_leastInactive_26 : decode cX3_leastInactive 26 = .ok (.ireturn, 1) := by decide +kernel
theorem dX3_activeOnes_0 : decode cX3_activeOnes 0 = .ok (.iconst 0, 1) := by decide +kernel
theorem dX3_activeOnes_1 : decode cX3_activeOnes 1 = .ok (.istore_n 1, 1) := by decide +kernel
theorem dX3_activeOnes_2 : decode cX3_activeOnes 2 = .ok (.iconst 0, 1) := by decide +kernel
theorem dX3_activeOnes_3 : decode cX3_activeOnes 3 = .ok (.istore_n 2, 1) := by decide +kernel
theorem dX3_activeOnes_4 : decode cX3_activeOnes 4 = .ok (.iload_n 2, 1) := by decide +kernel
theorem dX3_activeOnes_5 : decode cX3_activeOnes 5 = .ok (.bipush 8, 2) := by decide +kernel
theorem dX3_activeOnes_7 : decode cX3_activeOnes 7 = .ok (.if_icmp .ge 21, 3) := by decide +kernel
theorem dX3_activeOnes_10 : decode cX3_activeOnes 10 = .ok (.aload_n 0, 1) := by decide +kernel
theorem dX3_activeOnes_11 : decode cX3_activeOnes 11 = .ok (.getfield 34, 3) := by decide +kernel
theorem dX3_activeOnes_14 : decode cX3_activeOnes 14 = .ok (.iload_n 2, 1) := by decide +kernel
theorem dX3_activeOnes_15 : decode cX3_activeOnes 15 = .ok (.baload, 1) := by decide +kernel
theorem dX3_activeOnes_16 : decode cX3_activeOnes 16 = .ok (.ifCond .eq 6, 3) := by decide +kernel
theorem dX3_activeOnes_19 : decode cX3_activeOnes 19 = .ok (.iinc 1 1, 3) := by decide +kernel
theorem dX3_activeOnes_22 : decode cX3_activeOnes 22 = .ok (.iinc 2 1, 3) := by decide +kernel
theorem dX3_activeOnes_25 : decode cX3_activeOnes 25 = .ok (.goto (-21), 3) := by decide +kernel
theorem dX3_activeOnes_28 : decode cX3_activeOnes 28 = .ok (.iload_n 1, 1) := by decide +kernel
theorem dX3_activeOnes_29 : decode cX3_activeOnes 29 = .ok (.ireturn, 1) := by decide +kernel
theorem dX3_forgetActiveOnes_0 : decode cX3_forgetActiveOnes 0 = .ok (.iconst 0, 1) := by decide +kernel
theorem dX3_forgetActiveOnes_1 : decode cX3_forgetActiveOnes 1 = .ok (.istore_n 1, 1) := by decide +kernel
theorem dX3_forgetActiveOnes_2 : decode cX3_forgetActiveOnes 2 = .ok (.iload_n 1, 1) := by decide +kernel
theorem dX3_forgetActiveOnes_3 : decode cX3_forgetActiveOnes 3 = .ok (.bipush 8, 2) := by decide +kernel
theorem dX3_forgetActiveOnes_5 : decode cX3_forgetActiveOnes 5 = .ok (.if_icmp .ge 23, 3) := by decide +kernel
theorem dX3_forgetActiveOnes_8 : decode cX3_forgetActiveOnes 8 = .ok (.aload_n 0, 1) := by decide +kernel
theorem dX3_forgetActiveOnes_9 : decode cX3_forgetActiveOnes 9 = .ok (.getfield 34, 3) := by decide +kernel
theorem dX3_forgetActiveOnes_12 : decode cX3_forgetActiveOnes 12 = .ok (.iload_n 1, 1) := by decide +kernel
theorem dX3_forgetActiveOnes_13 : decode cX3_forgetActiveOnes 13 = .ok (.iconst 0, 1) := by decide +kernel
theorem dX3_forgetActiveOnes_14 : decode cX3_forgetActiveOnes 14 = .ok (.bastore, 1) := by decide +kernel
theorem dX3_forgetActiveOnes_15 : decode cX3_forgetActiveOnes 15 = .ok (.aload_n 0, 1) := by decide +kernel
theorem dX3_forgetActiveOnes_16 : decode cX3_forgetActiveOnes 16 = .ok (.getfield 38, 3) := by decide +kernel
theorem dX3_forgetActiveOnes_19 : decode cX3_forgetActiveOnes 19 = .ok (.iload_n 1, 1) := by decide +kernel
theorem dX3_forgetActiveOnes_20 : decode cX3_forgetActiveOnes 20 = .ok (.iconst 0, 1) := by decide +kernel
theorem dX3_forgetActiveOnes_21 : decode cX3_forgetActiveOnes 21 = .ok (.bastore, 1) := by decide +kernel
theorem dX3_forgetActiveOnes_22 : decode cX3_forgetActiveOnes 22 = .ok (.iinc 1 1, 3) := by decide +kernel
theorem dX3_forgetActiveOnes_25 : decode cX3_forgetActiveOnes 25 = .ok (.goto (-23), 3) := by decide +kernel
theorem dX3_forgetActiveOnes_28 : decode cX3_forgetActiveOnes 28 = .ok (.return_, 1) := by decide +kernel
theorem dX3_undoInPool_0 : decode cX3_undoInPool 0 = .ok (.aload_n 0, 1) := by decide +kernel
theorem dX3_undoInPool_1 : decode cX3_undoInPool 1 = .ok (.getfield 23, 3) := by decide +kernel
theorem dX3_undoInPool_4 : decode cX3_undoInPool 4 = .ok (.aload_n 0, 1) := by decide +kernel
theorem dX3_undoInPool_5 : decode cX3_undoInPool 5 = .ok (.getfield 30, 3) := by decide +kernel
theorem dX3_undoInPool_8 : decode cX3_undoInPool 8 = .ok (.iload_n 1, 1) := by decide +kernel
theorem dX3_undoInPool_9 : decode cX3_undoInPool 9 = .ok (.iconst 2, 1) := by decide +kernel
theorem dX3_undoInPool_10 : decode cX3_undoInPool 10 = .ok (.invokevirtual 106, 3) := by decide +kernel
theorem dX3_undoInPool_13 : decode cX3_undoInPool 13 = .ok (.aload_n 0, 1) := by decide +kernel
theorem dX3_undoInPool_14 : decode cX3_undoInPool 14 = .ok (.getfield 30, 3) := by decide +kernel
theorem dX3_undoInPool_17 : decode cX3_undoInPool 17 = .ok (.getfield 45, 3) := by decide +kernel
theorem dX3_undoInPool_20 : decode cX3_undoInPool 20 = .ok (.invokevirtual 49, 3) := by decide +kernel
theorem dX3_undoInPool_23 : decode cX3_undoInPool 23 = .ok (.istore_n 2, 1) := by decide +kernel
theorem dX3_undoInPool_24 : decode cX3_undoInPool 24 = .ok (.iload_n 2, 1) := by decide +kernel
theorem dX3_undoInPool_25 : decode cX3_undoInPool 25 = .ok (.ifCond .ge 5, 3) := by decide +kernel
theorem dX3_undoInPool_28 : decode cX3_undoInPool 28 = .ok (.iconst 0, 1) := by decide +kernel
theorem dX3_undoInPool_29 : decode cX3_undoInPool 29 = .ok (.ireturn, 1) := by decide +kernel
theorem dX3_undoInPool_30 : decode cX3_undoInPool 30 = .ok (.aload_n 0, 1) := by decide +kernel
theorem dX3_undoInPool_31 : decode cX3_undoInPool 31 = .ok (.getfield 23, 3) := by decide +kernel
theorem dX3_undoInPool_34 : decode cX3_undoInPool 34 = .ok (.getfield 52, 3) := by decide +kernel
theorem dX3_undoInPool_37 : decode cX3_undoInPool 37 = .ok (.iload_n 2, 1) := by decide +kernel
theorem dX3_undoInPool_38 : decode cX3_undoInPool 38 = .ok (.aaload, 1) := by decide +kernel
theorem dX3_undoInPool_39 : decode cX3_undoInPool 39 = .ok (.astore_n 3, 1) := by decide +kernel
theorem dX3_undoInPool_40 : decode cX3_undoInPool 40 = .ok (.aload_n 0, 1) := by decide +kernel
theorem dX3_undoInPool_41 : decode cX3_undoInPool 41 = .ok (.getfield 30, 3) := by decide +kernel
theorem dX3_undoInPool_44 : decode cX3_undoInPool 44 = .ok (.iload_n 1, 1) := by decide +kernel
theorem dX3_undoInPool_45 : decode cX3_undoInPool 45 = .ok (.iconst 3, 1) := by decide +kernel
theorem dX3_undoInPool_46 : decode cX3_undoInPool 46 = .ok (.invokevirtual 106, 3) := by decide +kernel
theorem dX3_undoInPool_49 : decode cX3_undoInPool 49 = .ok (.istore 4, 2) := by decide +kernel
theorem dX3_undoInPool_51 : decode cX3_undoInPool 51 = .ok (.aload_n 0, 1) := by decide +kernel
theorem dX3_undoInPool_52 : decode cX3_undoInPool 52 = .ok (.getfield 30, 3) := by decide +kernel
theorem dX3_undoInPool_55 : decode cX3_undoInPool 55 = .ok (.iload_n 1, 1) := by decide +kernel
theorem dX3_undoInPool_56 : decode cX3_undoInPool 56 = .ok (.aload_n 3, 1) := by decide +kernel
theorem dX3_undoInPool_57 : decode cX3_undoInPool 57 = .ok (.getfield 65, 3) := by decide +kernel
theorem dX3_undoInPool_60 : decode cX3_undoInPool 60 = .ok (.iload 4, 2) := by decide +kernel
theorem dX3_undoInPool_62 : decode cX3_undoInPool 62 = .ok (.iaload, 1) := by decide +kernel
theorem dX3_undoInPool_63 : decode cX3_undoInPool 63 = .ok (.invokevirtual 173, 3) := by decide +kernel
theorem dX3_undoInPool_66 : decode cX3_undoInPool 66 = .ok (.istore 5, 2) := by decide +kernel
theorem dX3_undoInPool_68 : decode cX3_undoInPool 68 = .ok (.aload_n 3, 1) := by decide +kernel
theorem dX3_undoInPool_69 : decode cX3_undoInPool 69 = .ok (.iload 4, 2) := by decide +kernel
theorem dX3_undoInPool_71 : decode cX3_undoInPool 71 = .ok (.aload_n 0, 1) := by decide +kernel
theorem dX3_undoInPool_72 : decode cX3_undoInPool 72 = .ok (.getfield 30, 3) := by decide +kernel
theorem dX3_undoInPool_75 : decode cX3_undoInPool 75 = .ok (.iload 5, 2) := by decide +kernel
theorem dX3_undoInPool_77 : decode cX3_undoInPool 77 = .ok (.iconst 5, 1) := by decide +kernel
theorem dX3_undoInPool_78 : decode cX3_undoInPool 78 = .ok (.invokevirtual 106, 3) := by decide +kernel
theorem dX3_undoInPool_81 : decode cX3_undoInPool 81 = .ok (.iload 5, 2) := by decide +kernel
theorem dX3_undoInPool_83 : decode cX3_undoInPool 83 = .ok (.invokevirtual 87, 3) := by decide +kernel
theorem dX3_undoInPool_86 : decode cX3_undoInPool 86 = .ok (.iconst 1, 1) := by decide +kernel
theorem dX3_undoInPool_87 : decode cX3_undoInPool 87 = .ok (.ireturn, 1) := by decide +kernel
theorem dX3_redoOnDisk_0 : decode cX3_redoOnDisk 0 = .ok (.iconst 1, 1) := by decide +kernel
theorem dX3_redoOnDisk_1 : decode cX3_redoOnDisk 1 = .ok (.istore_n 1, 1) := by decide +kernel
theorem dX3_redoOnDisk_2 : decode cX3_redoOnDisk 2 = .ok (.iload_n 1, 1) := by decide +kernel
theorem dX3_redoOnDisk_3 : decode cX3_redoOnDisk 3 = .ok (.aload_n 0, 1) := by decide +kernel
theorem dX3_redoOnDisk_4 : decode cX3_redoOnDisk 4 = .ok (.getfield 30, 3) := by decide +kernel
theorem dX3_redoOnDisk_7 : decode cX3_redoOnDisk 7 = .ok (.getfield 100, 3) := by decide +kernel
theorem dX3_redoOnDisk_10 : decode cX3_redoOnDisk 10 = .ok (.if_icmp .gt 49, 3) := by decide +kernel
theorem dX3_redoOnDisk_13 : decode cX3_redoOnDisk 13 = .ok (.aload_n 0, 1) := by decide +kernel
theorem dX3_redoOnDisk_14 : decode cX3_redoOnDisk 14 = .ok (.getfield 30, 3) := by decide +kernel
theorem dX3_redoOnDisk_17 : decode cX3_redoOnDisk 17 = .ok (.iload_n 1, 1) := by decide +kernel
theorem dX3_redoOnDisk_18 : decode cX3_redoOnDisk 18 = .ok (.invokevirtual 176, 3) := by decide +kernel
theorem dX3_redoOnDisk_21 : decode cX3_redoOnDisk 21 = .ok (.ifCond .eq 32, 3) := by decide +kernel
theorem dX3_redoOnDisk_24 : decode cX3_redoOnDisk 24 = .ok (.iload_n 1, 1) := by decide +kernel
theorem dX3_redoOnDisk_25 : decode cX3_redoOnDisk 25 = .ok (.aload_n 0, 1) := by decide +kernel
theorem dX3_redoOnDisk_26 : decode cX3_redoOnDisk 26 = .ok (.getfield 23, 3) := by decide +kernel
theorem dX3_redoOnDisk_29 : decode cX3_redoOnDisk 29 = .ok (.getfield 151, 3) := by decide +kernel
theorem dX3_redoOnDisk_32 : decode cX3_redoOnDisk 32 = .ok (.aload_n 0, 1) := by decide +kernel
theorem dX3_redoOnDisk_33 : decode cX3_redoOnDisk 33 = .ok (.getfield 30, 3) := by decide +kernel
theorem dX3_redoOnDisk_36 : decode cX3_redoOnDisk 36 = .ok (.iload_n 1, 1) := by decide +kernel
theorem dX3_redoOnDisk_37 : decode cX3_redoOnDisk 37 = .ok (.iconst 2, 1) := by decide +kernel
theorem dX3_redoOnDisk_38 : decode cX3_redoOnDisk 38 = .ok (.invokevirtual 106, 3) := by decide +kernel
theorem dX3_redoOnDisk_41 : decode cX3_redoOnDisk 41 = .ok (.aaload, 1) := by decide +kernel
theorem dX3_redoOnDisk_42 : decode cX3_redoOnDisk 42 = .ok (.bipush 8, 2) := by decide +kernel
theorem dX3_redoOnDisk_44 : decode cX3_redoOnDisk 44 = .ok (.iaload, 1) := by decide +kernel
theorem dX3_redoOnDisk_45 : decode cX3_redoOnDisk 45 = .ok (.if_icmp .le 8, 3) := by decide +kernel
theorem dX3_redoOnDisk_48 : decode cX3_redoOnDisk 48 = .ok (.aload_n 0, 1) := by decide +kernel
theorem dX3_redoOnDisk_49 : decode cX3_redoOnDisk 49 = .ok (.iload_n 1, 1) := by decide +kernel
theorem dX3_redoOnDisk_50 : decode cX3_redoOnDisk 50 = .ok (.invokevirtual 179, 3) := by decide +kernel
theorem dX3_redoOnDisk_53 : decode cX3_redoOnDisk 53 = .ok (.iinc 1 1, 3) := by decide +kernel
theorem dX3_redoOnDisk_56 : decode cX3_redoOnDisk 56 = .ok (.goto (-54), 3) := by decide +kernel
theorem dX3_redoOnDisk_59 : decode cX3_redoOnDisk 59 = .ok (.return_, 1) := by decide +kernel
theorem dX3_undoOnDisk_0 : decode cX3_undoOnDisk 0 = .ok (.iconst 0, 1) := by decide +kernel
theorem dX3_undoOnDisk_1 : decode cX3_undoOnDisk 1 = .ok (.istore_n 1, 1) := by decide +kernel
theorem dX3_undoOnDisk_2 : decode cX3_undoOnDisk 2 = .ok (.aload_n 0, 1) := by decide +kernel
theorem dX3_undoOnDisk_3 : decode cX3_undoOnDisk 3 = .ok (.getfield 30, 3) := by decide +kernel
theorem dX3_undoOnDisk_6 : decode cX3_undoOnDisk 6 = .ok (.getfield 100, 3) := by decide +kernel
theorem dX3_undoOnDisk_9 : decode cX3_undoOnDisk 9 = .ok (.istore_n 2, 1) := by decide +kernel
theorem dX3_undoOnDisk_10 : decode cX3_undoOnDisk 10 = .ok (.iload_n 2, 1) := by decide +kernel
theorem dX3_undoOnDisk_11 : decode cX3_undoOnDisk 11 = .ok (.iconst 1, 1) := by decide +kernel
theorem dX3_undoOnDisk_12 : decode cX3_undoOnDisk 12 = .ok (.if_icmp .lt 64, 3) := by decide +kernel
theorem dX3_undoOnDisk_15 : decode cX3_undoOnDisk 15 = .ok (.aload_n 0, 1) := by decide +kernel
theorem dX3_undoOnDisk_16 : decode cX3_undoOnDisk 16 = .ok (.getfield 30, 3) := by decide +kernel
theorem dX3_undoOnDisk_19 : decode cX3_undoOnDisk 19 = .ok (.iload_n 2, 1) := by decide +kernel
theorem dX3_undoOnDisk_20 : decode cX3_undoOnDisk 20 = .ok (.invokevirtual 103, 3) := by decide +kernel
theorem dX3_undoOnDisk_23 : decode cX3_undoOnDisk 23 = .ok (.ifCond .eq 47, 3) := by decide +kernel
theorem dX3_undoOnDisk_26 : decode cX3_undoOnDisk 26 = .ok (.aload_n 0, 1) := by decide +kernel
theorem dX3_undoOnDisk_27 : decode cX3_undoOnDisk 27 = .ok (.getfield 23, 3) := by decide +kernel
theorem dX3_undoOnDisk_30 : decode cX3_undoOnDisk 30 = .ok (.getfield 151, 3) := by decide +kernel
theorem dX3_undoOnDisk_33 : decode cX3_undoOnDisk 33 = .ok (.aload_n 0, 1) := by decide +kernel
theorem dX3_undoOnDisk_34 : decode cX3_undoOnDisk 34 = .ok (.getfield 30, 3) := by decide +kernel
theorem dX3_undoOnDisk_37 : decode cX3_undoOnDisk 37 = .ok (.iload_n 2, 1) := by decide +kernel
theorem dX3_undoOnDisk_38 : decode cX3_undoOnDisk 38 = .ok (.iconst 2, 1) := by decide +kernel
theorem dX3_undoOnDisk_39 : decode cX3_undoOnDisk 39 = .ok (.invokevirtual 106, 3) := by decide +kernel
theorem dX3_undoOnDisk_42 : decode cX3_undoOnDisk 42 = .ok (.aaload, 1) := by decide +kernel
theorem dX3_undoOnDisk_43 : decode cX3_undoOnDisk 43 = .ok (.astore_n 3, 1) := by decide +kernel
theorem dX3_undoOnDisk_44 : decode cX3_undoOnDisk 44 = .ok (.aload_n 0, 1) := by decide +kernel
theorem dX3_undoOnDisk_45 : decode cX3_undoOnDisk 45 = .ok (.aload_n 0, 1) := by decide +kernel
theorem dX3_undoOnDisk_46 : decode cX3_undoOnDisk 46 = .ok (.getfield 30, 3) := by decide +kernel
theorem dX3_undoOnDisk_49 : decode cX3_undoOnDisk 49 = .ok (.iload_n 2, 1) := by decide +kernel
theorem dX3_undoOnDisk_50 : decode cX3_undoOnDisk 50 = .ok (.aload_n 3, 1) := by decide +kernel
theorem dX3_undoOnDisk_51 : decode cX3_undoOnDisk 51 = .ok (.aload_n 0, 1) := by decide +kernel
theorem dX3_undoOnDisk_52 : decode cX3_undoOnDisk 52 = .ok (.getfield 30, 3) := by decide +kernel
theorem dX3_undoOnDisk_55 : decode cX3_undoOnDisk 55 = .ok (.iload_n 2, 1) := by decide +kernel
theorem dX3_undoOnDisk_56 : decode cX3_undoOnDisk 56 = .ok (.iconst 3, 1) := by decide +kernel
theorem dX3_undoOnDisk_57 : decode cX3_undoOnDisk 57 = .ok (.invokevirtual 106, 3) := by decide +kernel
theorem dX3_undoOnDisk_60 : decode cX3_undoOnDisk 60 = .ok (.iaload, 1) := by decide +kernel
theorem dX3_undoOnDisk_61 : decode cX3_undoOnDisk 61 = .ok (.invokevirtual 173, 3) := by decide +kernel
theorem dX3_undoOnDisk_64 : decode cX3_undoOnDisk 64 = .ok (.invokevirtual 179, 3) := by decide +kernel
theorem dX3_undoOnDisk_67 : decode cX3_undoOnDisk 67 = .ok (.iinc 1 1, 3) := by decide +kernel
theorem dX3_undoOnDisk_70 : decode cX3_undoOnDisk 70 = .ok (.iinc 2 (-1), 3) := by decide +kernel
theorem dX3_undoOnDisk_73 : decode cX3_undoOnDisk 73 = .ok (.goto (-63), 3) := by decide +kernel
theorem dX3_undoOnDisk_76 : decode cX3_undoOnDisk 76 = .ok (.iload_n 1, 1) := by decide +kernel
theorem dX3_undoOnDisk_77 : decode cX3_undoOnDisk 77 = .ok (.ireturn, 1) := by decide +kernel
theorem dX3_putOnDisk_0 : decode cX3_putOnDisk 0 = .ok (.aload_n 0, 1) := by decide +kernel
theorem dX3_putOnDisk_1 : decode cX3_putOnDisk 1 = .ok (.getfield 23, 3) := by decide +kernel
theorem dX3_putOnDisk_4 : decode cX3_putOnDisk 4 = .ok (.getfield 151, 3) := by decide +kernel
theorem dX3_putOnDisk_7 : decode cX3_putOnDisk 7 = .ok (.aload_n 0, 1) := by decide +kernel
theorem dX3_putOnDisk_8 : decode cX3_putOnDisk 8 = .ok (.getfield 30, 3) := by decide +kernel
theorem dX3_putOnDisk_11 : decode cX3_putOnDisk 11 = .ok (.iload_n 1, 1) := by decide +kernel
theorem dX3_putOnDisk_12 : decode cX3_putOnDisk 12 = .ok (.iconst 2, 1) := by decide +kernel
theorem dX3_putOnDisk_13 : decode cX3_putOnDisk 13 = .ok (.invokevirtual 106, 3) := by decide +kernel
theorem dX3_putOnDisk_16 : decode cX3_putOnDisk 16 = .ok (.aaload, 1) := by decide +kernel
theorem dX3_putOnDisk_17 : decode cX3_putOnDisk 17 = .ok (.astore_n 2, 1) := by decide +kernel
theorem dX3_putOnDisk_18 : decode cX3_putOnDisk 18 = .ok (.aload_n 2, 1) := by decide +kernel
theorem dX3_putOnDisk_19 : decode cX3_putOnDisk 19 = .ok (.aload_n 0, 1) := by decide +kernel
theorem dX3_putOnDisk_20 : decode cX3_putOnDisk 20 = .ok (.getfield 30, 3) := by decide +kernel
theorem dX3_putOnDisk_23 : decode cX3_putOnDisk 23 = .ok (.iload_n 1, 1) := by decide +kernel
theorem dX3_putOnDisk_24 : decode cX3_putOnDisk 24 = .ok (.iconst 3, 1) := by decide +kernel
theorem dX3_putOnDisk_25 : decode cX3_putOnDisk 25 = .ok (.invokevirtual 106, 3) := by decide +kernel
theorem dX3_putOnDisk_28 : decode cX3_putOnDisk 28 = .ok (.aload_n 0, 1) := by decide +kernel
theorem dX3_putOnDisk_29 : decode cX3_putOnDisk 29 = .ok (.getfield 30, 3) := by decide +kernel
theorem dX3_putOnDisk_32 : decode cX3_putOnDisk 32 = .ok (.iload_n 1, 1) := by decide +kernel
theorem dX3_putOnDisk_33 : decode cX3_putOnDisk 33 = .ok (.iconst 5, 1) := by decide +kernel
theorem dX3_putOnDisk_34 : decode cX3_putOnDisk 34 = .ok (.invokevirtual 106, 3) := by decide +kernel
theorem dX3_putOnDisk_37 : decode cX3_putOnDisk 37 = .ok (.iastore, 1) := by decide +kernel
theorem dX3_putOnDisk_38 : decode cX3_putOnDisk 38 = .ok (.aload_n 2, 1) := by decide +kernel
theorem dX3_putOnDisk_39 : decode cX3_putOnDisk 39 = .ok (.bipush 8, 2) := by decide +kernel
theorem dX3_putOnDisk_41 : decode cX3_putOnDisk 41 = .ok (.iload_n 1, 1) := by decide +kernel
theorem dX3_putOnDisk_42 : decode cX3_putOnDisk 42 = .ok (.iastore, 1) := by decide +kernel
theorem dX3_putOnDisk_43 : decode cX3_putOnDisk 43 = .ok (.return_, 1) := by decide +kernel
theorem dX3_endUnended_0 : decode cX3_endUnended 0 = .ok (.iconst 0, 1) := by decide +kernel
theorem dX3_endUnended_1 : decode cX3_endUnended 1 = .ok (.istore_n 1, 1) := by decide +kernel
theorem dX3_endUnended_2 : decode cX3_endUnended 2 = .ok (.iload_n 1, 1) := by decide +kernel
theorem dX3_endUnended_3 : decode cX3_endUnended 3 = .ok (.bipush 8, 2) := by decide +kernel
theorem dX3_endUnended_5 : decode cX3_endUnended 5 = .ok (.if_icmp .ge 30, 3) := by decide +kernel
theorem dX3_endUnended_8 : decode cX3_endUnended 8 = .ok (.aload_n 0, 1) := by decide +kernel
theorem dX3_endUnended_9 : decode cX3_endUnended 9 = .ok (.getfield 30, 3) := by decide +kernel
theorem dX3_endUnended_12 : decode cX3_endUnended 12 = .ok (.iload_n 1, 1) := by decide +kernel
theorem dX3_endUnended_13 : decode cX3_endUnended 13 = .ok (.invokevirtual 182, 3) := by decide +kernel
theorem dX3_endUnended_16 : decode cX3_endUnended 16 = .ok (.ifCond .eq 13, 3) := by decide +kernel
theorem dX3_endUnended_19 : decode cX3_endUnended 19 = .ok (.aload_n 0, 1) := by decide +kernel
theorem dX3_endUnended_20 : decode cX3_endUnended 20 = .ok (.getfield 30, 3) := by decide +kernel
theorem dX3_endUnended_23 : decode cX3_endUnended 23 = .ok (.iconst 3, 1) := by decide +kernel
theorem dX3_endUnended_24 : decode cX3_endUnended 24 = .ok (.iload_n 1, 1) := by decide +kernel
theorem dX3_endUnended_25 : decode cX3_endUnended 25 = .ok (.invokevirtual 91, 3) := by decide +kernel
theorem dX3_endUnended_28 : decode cX3_endUnended 28 = .ok (.pop, 1) := by decide +kernel
theorem dX3_endUnended_29 : decode cX3_endUnended 29 = .ok (.iinc 1 1, 3) := by decide +kernel
theorem dX3_endUnended_32 : decode cX3_endUnended 32 = .ok (.goto (-30), 3) := by decide +kernel
theorem dX3_endUnended_35 : decode cX3_endUnended 35 = .ok (.return_, 1) := by decide +kernel
