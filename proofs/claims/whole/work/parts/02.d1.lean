theorem dX10_init_54 : decode cX10_init 54 = .ok (.iastore, 1) := by decide +kernel
theorem dX10_init_55 : decode cX10_init 55 = .ok (.iinc 1 1, 3) := by decide +kernel
theorem dX10_init_58 : decode cX10_init 58 = .ok (.goto (-26), 3) := by decide +kernel
theorem dX10_init_61 : decode cX10_init 61 = .ok (.return_, 1) := by decide +kernel
theorem dX10_copyFrom_0 : decode cX10_copyFrom 0 = .ok (.aload_n 1, 1) := by decide +kernel
theorem dX10_copyFrom_1 : decode cX10_copyFrom 1 = .ok (.getfield 9, 3) := by decide +kernel
theorem dX10_copyFrom_4 : decode cX10_copyFrom 4 = .ok (.iconst 0, 1) := by decide +kernel
theorem dX10_copyFrom_5 : decode cX10_copyFrom 5 = .ok (.aload_n 0, 1) := by decide +kernel
theorem dX10_copyFrom_6 : decode cX10_copyFrom 6 = .ok (.getfield 9, 3) := by decide +kernel
theorem dX10_copyFrom_9 : decode cX10_copyFrom 9 = .ok (.iconst 0, 1) := by decide +kernel
theorem dX10_copyFrom_10 : decode cX10_copyFrom 10 = .ok (.sipush 384, 3) := by decide +kernel
theorem dX10_copyFrom_13 : decode cX10_copyFrom 13 = .ok (.invokestatic 21, 3) := by decide +kernel
theorem dX10_copyFrom_16 : decode cX10_copyFrom 16 = .ok (.aload_n 1, 1) := by decide +kernel
theorem dX10_copyFrom_17 : decode cX10_copyFrom 17 = .ok (.getfield 15, 3) := by decide +kernel
theorem dX10_copyFrom_20 : decode cX10_copyFrom 20 = .ok (.iconst 0, 1) := by decide +kernel
theorem dX10_copyFrom_21 : decode cX10_copyFrom 21 = .ok (.aload_n 0, 1) := by decide +kernel
theorem dX10_copyFrom_22 : decode cX10_copyFrom 22 = .ok (.getfield 15, 3) := by decide +kernel
theorem dX10_copyFrom_25 : decode cX10_copyFrom 25 = .ok (.iconst 0, 1) := by decide +kernel
theorem dX10_copyFrom_26 : decode cX10_copyFrom 26 = .ok (.sipush 384, 3) := by decide +kernel
theorem dX10_copyFrom_29 : decode cX10_copyFrom 29 = .ok (.invokestatic 21, 3) := by decide +kernel
theorem dX10_copyFrom_32 : decode cX10_copyFrom 32 = .ok (.aload_n 1, 1) := by decide +kernel
theorem dX10_copyFrom_33 : decode cX10_copyFrom 33 = .ok (.getfield 18, 3) := by decide +kernel
theorem dX10_copyFrom_36 : decode cX10_copyFrom 36 = .ok (.iconst 0, 1) := by decide +kernel
theorem dX10_copyFrom_37 : decode cX10_copyFrom 37 = .ok (.aload_n 0, 1) := by decide +kernel
theorem dX10_copyFrom_38 : decode cX10_copyFrom 38 = .ok (.getfield 18, 3) := by decide +kernel
theorem dX10_copyFrom_41 : decode cX10_copyFrom 41 = .ok (.iconst 0, 1) := by decide +kernel
theorem dX10_copyFrom_42 : decode cX10_copyFrom 42 = .ok (.bipush 48, 2) := by decide +kernel
theorem dX10_copyFrom_44 : decode cX10_copyFrom 44 = .ok (.invokestatic 21, 3) := by decide +kernel
theorem dX10_copyFrom_47 : decode cX10_copyFrom 47 = .ok (.return_, 1) := by decide +kernel
theorem dX10_latest_0 : decode cX10_latest 0 = .ok (.aload_n 0, 1) := by decide +kernel
theorem dX10_latest_1 : decode cX10_latest 1 = .ok (.getfield 15, 3) := by decide +kernel
theorem dX10_latest_4 : decode cX10_latest 4 = .ok (.aload_n 0, 1) := by decide +kernel
theorem dX10_latest_5 : decode cX10_latest 5 = .ok (.iload_n 1, 1) := by decide +kernel
theorem dX10_latest_6 : decode cX10_latest 6 = .ok (.invokevirtual 27, 3) := by decide +kernel
theorem dX10_latest_9 : decode cX10_latest 9 = .ok (.iaload, 1) := by decide +kernel
theorem dX10_latest_10 : decode cX10_latest 10 = .ok (.ireturn, 1) := by decide +kernel
theorem dX10_latestSeq_0 : decode cX10_latestSeq 0 = .ok (.aload_n 0, 1) := by decide +kernel
theorem dX10_latestSeq_1 : decode cX10_latestSeq 1 = .ok (.getfield 9, 3) := by decide +kernel
theorem dX10_latestSeq_4 : decode cX10_latestSeq 4 = .ok (.aload_n 0, 1) := by decide +kernel
theorem dX10_latestSeq_5 : decode cX10_latestSeq 5 = .ok (.iload_n 1, 1) := by decide +kernel
theorem dX10_latestSeq_6 : decode cX10_latestSeq 6 = .ok (.invokevirtual 27, 3) := by decide +kernel
theorem dX10_latestSeq_9 : decode cX10_latestSeq 9 = .ok (.iaload, 1) := by decide +kernel
theorem dX10_latestSeq_10 : decode cX10_latestSeq 10 = .ok (.ireturn, 1) := by decide +kernel
theorem dX10_valueAt_0 : decode cX10_valueAt 0 = .ok (.iload_n 1, 1) := by decide +kernel
theorem dX10_valueAt_1 : decode cX10_valueAt 1 = .ok (.bipush 8, 2) := by decide +kernel
theorem dX10_valueAt_3 : decode cX10_valueAt 3 = .ok (.imul, 1) := by decide +kernel
theorem dX10_valueAt_4 : decode cX10_valueAt 4 = .ok (.istore_n 3, 1) := by decide +kernel
theorem dX10_valueAt_5 : decode cX10_valueAt 5 = .ok (.aload_n 0, 1) := by decide +kernel
theorem dX10_valueAt_6 : decode cX10_valueAt 6 = .ok (.getfield 18, 3) := by decide +kernel
theorem dX10_valueAt_9 : decode cX10_valueAt 9 = .ok (.iload_n 1, 1) := by decide +kernel
theorem dX10_valueAt_10 : decode cX10_valueAt 10 = .ok (.iaload, 1) := by decide +kernel
theorem dX10_valueAt_11 : decode cX10_valueAt 11 = .ok (.iconst 1, 1) := by decide +kernel
theorem dX10_valueAt_12 : decode cX10_valueAt 12 = .ok (.isub, 1) := by decide +kernel
theorem dX10_valueAt_13 : decode cX10_valueAt 13 = .ok (.istore 4, 2) := by decide +kernel
theorem dX10_valueAt_15 : decode cX10_valueAt 15 = .ok (.iload 4, 2) := by decide +kernel
theorem dX10_valueAt_17 : decode cX10_valueAt 17 = .ok (.ifCond .lt 32, 3) := by decide +kernel
theorem dX10_valueAt_20 : decode cX10_valueAt 20 = .ok (.aload_n 0, 1) := by decide +kernel
theorem dX10_valueAt_21 : decode cX10_valueAt 21 = .ok (.getfield 9, 3) := by decide +kernel
theorem dX10_valueAt_24 : decode cX10_valueAt 24 = .ok (.iload_n 3, 1) := by decide +kernel
theorem dX10_valueAt_25 : decode cX10_valueAt 25 = .ok (.iload 4, 2) := by decide +kernel
theorem dX10_valueAt_27 : decode cX10_valueAt 27 = .ok (.iadd, 1) := by decide +kernel
theorem dX10_valueAt_28 : decode cX10_valueAt 28 = .ok (.iaload, 1) := by decide +kernel
theorem dX10_valueAt_29 : decode cX10_valueAt 29 = .ok (.iload_n 2, 1) := by decide +kernel
theorem dX10_valueAt_30 : decode cX10_valueAt 30 = .ok (.if_icmp .gt 13, 3) := by decide +kernel
theorem dX10_valueAt_33 : decode cX10_valueAt 33 = .ok (.aload_n 0, 1) := by decide +kernel
theorem dX10_valueAt_34 : decode cX10_valueAt 34 = .ok (.getfield 15, 3) := by decide +kernel
theorem dX10_valueAt_37 : decode cX10_valueAt 37 = .ok (.iload_n 3, 1) := by decide +kernel
theorem dX10_valueAt_38 : decode cX10_valueAt 38 = .ok (.iload 4, 2) := by decide +kernel
theorem dX10_valueAt_40 : decode cX10_valueAt 40 = .ok (.iadd, 1) := by decide +kernel
theorem dX10_valueAt_41 : decode cX10_valueAt 41 = .ok (.iaload, 1) := by decide +kernel
theorem dX10_valueAt_42 : decode cX10_valueAt 42 = .ok (.ireturn, 1) := by decide +kernel
theorem dX10_valueAt_43 : decode cX10_valueAt 43 = .ok (.iinc 4 (-1), 3) := by decide +kernel
theorem dX10_valueAt_46 : decode cX10_valueAt 46 = .ok (.goto (-31), 3) := by decide +kernel
theorem dX10_valueAt_49 : decode cX10_valueAt 49 = .ok (.iconst (-1), 1) := by decide +kernel
theorem dX10_valueAt_50 : decode cX10_valueAt 50 = .ok (.ireturn, 1) := by decide +kernel
theorem dX10_isFull_0 : decode cX10_isFull 0 = .ok (.aload_n 0, 1) := by decide +kernel
theorem dX10_isFull_1 : decode cX10_isFull 1 = .ok (.getfield 18, 3) := by decide +kernel
theorem dX10_isFull_4 : decode cX10_isFull 4 = .ok (.iload_n 1, 1) := by decide +kernel
theorem dX10_isFull_5 : decode cX10_isFull 5 = .ok (.iaload, 1) := by decide +kernel
theorem dX10_isFull_6 : decode cX10_isFull 6 = .ok (.bipush 8, 2) := by decide +kernel
theorem dX10_isFull_8 : decode cX10_isFull 8 = .ok (.if_icmp .lt 7, 3) := by decide +kernel
theorem dX10_isFull_11 : decode cX10_isFull 11 = .ok (.iconst 1, 1) := by decide +kernel
theorem dX10_isFull_12 : decode cX10_isFull 12 = .ok (.goto 4, 3) := by decide +kernel
theorem dX10_isFull_15 : decode cX10_isFull 15 = .ok (.iconst 0, 1) := by decide +kernel
theorem dX10_isFull_16 : decode cX10_isFull 16 = .ok (.ireturn, 1) := by decide +kernel
theorem dX10_append_0 : decode cX10_append 0 = .ok (.aload_n 0, 1) := by decide +kernel
theorem dX10_append_1 : decode cX10_append 1 = .ok (.iload_n 1, 1) := by decide +kernel
theorem dX10_append_2 : decode cX10_append 2 = .ok (.invokevirtual 31, 3) := by decide +kernel
theorem dX10_append_5 : decode cX10_append 5 = .ok (.ifCond .eq 4, 3) := by decide +kernel
theorem dX10_append_8 : decode cX10_append 8 = .ok (.return_, 1) := by decide +kernel
theorem dX10_append_9 : decode cX10_append 9 = .ok (.aload_n 0, 1) := by decide +kernel
theorem dX10_append_10 : decode cX10_append 10 = .ok (.getfield 18, 3) := by decide +kernel
theorem dX10_append_13 : decode cX10_append 13 = .ok (.iload_n 1, 1) := by decide +kernel
theorem dX10_append_14 : decode cX10_append 14 = .ok (.dup2, 1) := by decide +kernel
theorem dX10_append_15 : decode cX10_append 15 = .ok (.iaload, 1) := by decide +kernel
theorem dX10_append_16 : decode cX10_append 16 = .ok (.iconst 1, 1) := by decide +kernel
theorem dX10_append_17 : decode cX10_append 17 = .ok (.iadd, 1) := by decide +kernel
theorem dX10_append_18 : decode cX10_append 18 = .ok (.iastore, 1) := by decide +kernel
theorem dX10_append_19 : decode cX10_append 19 = .ok (.aload_n 0, 1) := by decide +kernel
theorem dX10_append_20 : decode cX10_append 20 = .ok (.getfield 9, 3) := by decide +kernel
theorem dX10_append_23 : decode cX10_append 23 = .ok (.aload_n 0, 1) := by decide +kernel
theorem dX10_append_24 : decode cX10_append 24 = .ok (.iload_n 1, 1) := by decide +kernel
theorem dX10_append_25 : decode cX10_append 25 = .ok (.invokevirtual 27, 3) := by decide +kernel
theorem dX10_append_28 : decode cX10_append 28 = .ok (.iload_n 2, 1) := by decide +kernel
theorem dX10_append_29 : decode cX10_append 29 = .ok (.iastore, 1) := by decide +kernel
theorem dX10_append_30 : decode cX10_append 30 = .ok (.aload_n 0, 1) := by decide +kernel
theorem dX10_append_31 : decode cX10_append 31 = .ok (.getfield 15, 3) := by decide +kernel
theorem dX10_append_34 : decode cX10_append 34 = .ok (.aload_n 0, 1) := by decide +kernel
theorem dX10_append_35 : decode cX10_append 35 = .ok (.iload_n 1, 1) := by decide +kernel
theorem dX10_append_36 : decode cX10_append 36 = .ok (.invokevirtual 27, 3) := by decide +kernel
theorem dX10_append_39 : decode cX10_append 39 = .ok (.iload_n 3, 1) := by decide +kernel
theorem dX10_append_40 : decode cX10_append 40 = .ok (.iastore, 1) := by decide +kernel
theorem dX10_append_41 : decode cX10_append 41 = .ok (.return_, 1) := by decide +kernel
theorem dX10_inAll_0 : decode cX10_inAll 0 = .ok (.iconst 0, 1) := by decide +kernel
theorem dX10_inAll_1 : decode cX10_inAll 1 = .ok (.istore_n 1, 1) := by decide +kernel
theorem dX10_inAll_2 : decode cX10_inAll 2 = .ok (.iconst 0, 1) := by decide +kernel
theorem dX10_inAll_3 : decode cX10_inAll 3 = .ok (.istore_n 2, 1) := by decide +kernel
theorem dX10_inAll_4 : decode cX10_inAll 4 = .ok (.iload_n 2, 1) := by decide +kernel
theorem dX10_inAll_5 : decode cX10_inAll 5 = .ok (.bipush 48, 2) := by decide +kernel
theorem dX10_inAll_7 : decode cX10_inAll 7 = .ok (.if_icmp .ge 18, 3) := by decide +kernel
theorem dX10_inAll_10 : decode cX10_inAll 10 = .ok (.iload_n 1, 1) := by decide +kernel
theorem dX10_inAll_11 : decode cX10_inAll 11 = .ok (.aload_n 0, 1) := by decide +kernel
theorem dX10_inAll_12 : decode cX10_inAll 12 = .ok (.getfield 18, 3) := by decide +kernel
theorem dX10_inAll_15 : decode cX10_inAll 15 = .ok (.iload_n 2, 1) := by decide +kernel
theorem dX10_inAll_16 : decode cX10_inAll 16 = .ok (.iaload, 1) := by decide +kernel
theorem dX10_inAll_17 : decode cX10_inAll 17 = .ok (.iadd, 1) := by decide +kernel
theorem dX10_inAll_18 : decode cX10_inAll 18 = .ok (.istore_n 1, 1) := by decide +kernel
theorem dX10_inAll_19 : decode cX10_inAll 19 = .ok (.iinc 2 1, 3) := by decide +kernel
theorem dX10_inAll_22 : decode cX10_inAll 22 = .ok (.goto (-18), 3) := by decide +kernel
theorem dX10_inAll_25 : decode cX10_inAll 25 = .ok (.iload_n 1, 1) := by decide +kernel
theorem dX10_inAll_26 : decode cX10_inAll 26 = .ok (.ireturn, 1) := by decide +kernel
theorem dX10_rowsThere_0 : decode cX10_rowsThere 0 = .ok (.iconst 0, 1) := by decide +kernel
theorem dX10_rowsThere_1 : decode cX10_rowsThere 1 = .ok (.istore_n 1, 1) := by decide +kernel
theorem dX10_rowsThere_2 : decode cX10_rowsThere 2 = .ok (.iconst 0, 1) := by decide +kernel
theorem dX10_rowsThere_3 : decode cX10_rowsThere 3 = .ok (.istore_n 2, 1) := by decide +kernel
theorem dX10_rowsThere_4 : decode cX10_rowsThere 4 = .ok (.iload_n 2, 1) := by decide +kernel
theorem dX10_rowsThere_5 : decode cX10_rowsThere 5 = .ok (.bipush 48, 2) := by decide +kernel
theorem dX10_rowsThere_7 : decode cX10_rowsThere 7 = .ok (.if_icmp .ge 26, 3) := by decide +kernel
theorem dX10_rowsThere_10 : decode cX10_rowsThere 10 = .ok (.iload_n 1, 1) := by decide +kernel
theorem dX10_rowsThere_11 : decode cX10_rowsThere 11 = .ok (.aload_n 0, 1) := by decide +kernel
theorem dX10_rowsThere_12 : decode cX10_rowsThere 12 = .ok (.iload_n 2, 1) := by decide +kernel
theorem dX10_rowsThere_13 : decode cX10_rowsThere 13 = .ok (.invokevirtual 35, 3) := by decide +kernel
theorem dX10_rowsThere_16 : decode cX10_rowsThere 16 = .ok (.iconst (-1), 1) := by decide +kernel
theorem dX10_rowsThere_17 : decode cX10_rowsThere 17 = .ok (.if_icmp .ne 7, 3) := by decide +kernel
theorem dX10_rowsThere_20 : decode cX10_rowsThere 20 = .ok (.iconst 0, 1) := by decide +kernel
theorem dX10_rowsThere_21 : decode cX10_rowsThere 21 = .ok (.goto 4, 3) := by decide +kernel
theorem dX10_rowsThere_24 : decode cX10_rowsThere 24 = .ok (.iconst 1, 1) := by decide +kernel
theorem dX10_rowsThere_25 : decode cX10_rowsThere 25 = .ok (.iadd, 1) := by decide +kernel
theorem dX10_rowsThere_26 : decode cX10_rowsThere 26 = .ok (.istore_n 1, 1) := by decide +kernel
theorem dX10_rowsThere_27 : decode cX10_rowsThere 27 = .ok (.iinc 2 1, 3) := by decide +kernel
theorem dX10_rowsThere_30 : decode cX10_rowsThere 30 = .ok (.goto (-26), 3) := by decide +kernel
theorem dX10_rowsThere_33 : decode cX10_rowsThere 33 = .ok (.iload_n 1, 1) := by decide +kernel
theorem dX10_rowsThere_34 : decode cX10_rowsThere 34 = .ok (.ireturn, 1) := by decide +kernel
theorem dX10_keepSeen_0 : decode cX10_keepSeen 0 = .ok (.iload_n 1, 1) := by decide +kernel
theorem dX10_keepSeen_1 : decode cX10_keepSeen 1 = .ok (.bipush 8, 2) := by decide +kernel
theorem dX10_keepSeen_3 : decode cX10_keepSeen 3 = .ok (.imul, 1) := by decide +kernel
theorem dX10_keepSeen_4 : decode cX10_keepSeen 4 = .ok (.istore 4, 2) := by decide +kernel
theorem dX10_keepSeen_6 : decode cX10_keepSeen 6 = .ok (.aload_n 0, 1) := by decide +kernel
theorem dX10_keepSeen_7 : decode cX10_keepSeen 7 = .ok (.getfield 18, 3) := by decide +kernel
theorem dX10_keepSeen_10 : decode cX10_keepSeen 10 = .ok (.iload_n 1, 1) := by decide +kernel
theorem dX10_keepSeen_11 : decode cX10_keepSeen 11 = .ok (.iaload, 1) := by decide +kernel
theorem dX10_keepSeen_12 : decode cX10_keepSeen 12 = .ok (.istore 5, 2) := by decide +kernel
theorem dX10_keepSeen_14 : decode cX10_keepSeen 14 = .ok (.iconst 0, 1) := by decide +kernel
theorem dX10_keepSeen_15 : decode cX10_keepSeen 15 = .ok (.istore 6, 2) := by decide +kernel
theorem dX10_keepSeen_17 : decode cX10_keepSeen 17 = .ok (.iconst 0, 1) := by decide +kernel
theorem dX10_keepSeen_18 : decode cX10_keepSeen 18 = .ok (.istore 7, 2) := by decide +kernel
theorem dX10_keepSeen_20 : decode cX10_keepSeen 20 = .ok (.iload 7, 2) := by decide +kernel
theorem dX10_keepSeen_22 : decode cX10_keepSeen 22 = .ok (.iload 5, 2) := by decide +kernel
theorem dX10_keepSeen_24 : decode cX10_keepSeen 24 = .ok (.if_icmp .ge 100, 3) := by decide +kernel
theorem dX10_keepSeen_27 : decode cX10_keepSeen 27 = .ok (.iload 7, 2) := by decide +kernel
theorem dX10_keepSeen_29 : decode cX10_keepSeen 29 = .ok (.iconst 1, 1) := by decide +kernel
theorem dX10_keepSeen_30 : decode cX10_keepSeen 30 = .ok (.iadd, 1) := by decide +kernel
theorem dX10_keepSeen_31 : decode cX10_keepSeen 31 = .ok (.iload 5, 2) := by decide +kernel
theorem dX10_keepSeen_33 : decode cX10_keepSeen 33 = .ok (.if_icmp .ge 18, 3) := by decide +kernel
theorem dX10_keepSeen_36 : decode cX10_keepSeen 36 = .ok (.aload_n 0, 1) := by decide +kernel
theorem dX10_keepSeen_37 : decode cX10_keepSeen 37 = .ok (.getfield 9, 3) := by decide +kernel
theorem dX10_keepSeen_40 : decode cX10_keepSeen 40 = .ok (.iload 4, 2) := by decide +kernel
theorem dX10_keepSeen_42 : decode cX10_keepSeen 42 = .ok (.iload 7, 2) := by decide +kernel
theorem dX10_keepSeen_44 : decode cX10_keepSeen 44 = .ok (.iadd, 1) := by decide +kernel
theorem dX10_keepSeen_45 : decode cX10_keepSeen 45 = .ok (.iconst 1, 1) := by decide +kernel
theorem dX10_keepSeen_46 : decode cX10_keepSeen 46 = .ok (.iadd, 1) := by decide +kernel
theorem dX10_keepSeen_47 : decode cX10_keepSeen 47 = .ok (.iaload, 1) := by decide +kernel
theorem dX10_keepSeen_48 : decode cX10_keepSeen 48 = .ok (.goto 5, 3) := by decide +kernel
theorem dX10_keepSeen_51 : decode cX10_keepSeen 51 = .ok (.ldc 38, 2) := by decide +kernel
theorem dX10_keepSeen_53 : decode cX10_keepSeen 53 = .ok (.istore 8, 2) := by decide +kernel
theorem dX10_keepSeen_55 : decode cX10_keepSeen 55 = .ok (.aload_n 2, 1) := by decide +kernel
theorem dX10_keepSeen_56 : decode cX10_keepSeen 56 = .ok (.iload_n 3, 1) := by decide +kernel
theorem dX10_keepSeen_57 : decode cX10_keepSeen 57 = .ok (.aload_n 0, 1) := by decide +kernel
theorem dX10_keepSeen_58 : decode cX10_keepSeen 58 = .ok (.getfield 9, 3) := by decide +kernel
theorem dX10_keepSeen_61 : decode cX10_keepSeen 61 = .ok (.iload 4, 2) := by decide +kernel
theorem dX10_keepSeen_63 : decode cX10_keepSeen 63 = .ok (.iload 7, 2) := by decide +kernel
theorem dX10_keepSeen_65 : decode cX10_keepSeen 65 = .ok (.iadd, 1) := by decide +kernel
theorem dX10_keepSeen_66 : decode cX10_keepSeen 66 = .ok (.iaload, 1) := by decide +kernel
theorem dX10_keepSeen_67 : decode cX10_keepSeen 67 = .ok (.iload 8, 2) := by decide +kernel
theorem dX10_keepSeen_69 : decode cX10_keepSeen 69 = .ok (.invokestatic 39, 3) := by decide +kernel
theorem dX10_keepSeen_72 : decode cX10_keepSeen 72 = .ok (.ifCond .eq 46, 3) := by decide +kernel
theorem dX10_keepSeen_75 : decode cX10_keepSeen 75 = .ok (.aload_n 0, 1) := by decide +kernel
theorem dX10_keepSeen_76 : decode cX10_keepSeen 76 = .ok (.getfield 9, 3) := by decide +kernel
theorem dX10_keepSeen_79 : decode cX10_keepSeen 79 = .ok (.iload 4, 2) := by decide +kernel
theorem dX10_keepSeen_81 : decode cX10_keepSeen 81 = .ok (.iload 6, 2) := by decide +kernel
theorem dX10_keepSeen_83 : decode cX10_keepSeen 83 = .ok (.iadd, 1) := by decide +kernel
theorem dX10_keepSeen_84 : decode cX10_keepSeen 84 = .ok (.aload_n 0, 1) := by decide +kernel
theorem dX10_keepSeen_85 : decode cX10_keepSeen 85 = .ok (.getfield 9, 3) := by decide +kernel
theorem dX10_keepSeen_88 : decode cX10_keepSeen 88 = .ok (.iload 4, 2) := by decide +kernel
theorem dX10_keepSeen_90 : decode cX10_keepSeen 90 = .ok (.iload 7, 2) := by decide +kernel
theorem dX10_keepSeen_92 : decode cX10_keepSeen 92 = .ok (.iadd, 1) := by decide +kernel
theorem dX10_keepSeen_93 : decode cX10_keepSeen 93 = .ok (.iaload, 1) := by decide +kernel
theorem dX10_keepSeen_94 : decode cX10_keepSeen 94 = .ok (.iastore, 1) := by decide +kernel
theorem dX10_keepSeen_95 : decode cX10_keepSeen 95 = .ok (.aload_n 0, 1) := by decide +kernel
theorem dX10_keepSeen_96 : decode cX10_keepSeen 96 = .ok (.getfield 15, 3) := by decide +kernel
theorem dX10_keepSeen_99 : decode cX10_keepSeen 99 = .ok (.iload 4, 2) := by decide +kernel
theorem dX10_keepSeen_101 : decode cX10_keepSeen 101 = .ok (.iload 6, 2) := by decide +kernel
theorem dX10_keepSeen_103 : decode cX10_keepSeen 103 = .ok (.iadd, 1) := by decide +kernel
theorem dX10_keepSeen_104 : decode cX10_keepSeen 104 = .ok (.aload_n 0, 1) := by decide +kernel
theorem dX10_keepSeen_105 : decode cX10_keepSeen 105 = .ok (.getfield 15, 3) := by decide +kernel
theorem dX10_keepSeen_108 : decode cX10_keepSeen 108 = .ok (.iload 4, 2) := by decide +kernel
theorem dX10_keepSeen_110 : decode cX10_keepSeen 110 = .ok (.iload 7, 2) := by decide +kernel
theorem dX10_keepSeen_112 : decode cX10_keepSeen 112 = .ok (.iadd, 1) := by decide +kernel
theorem dX10_keepSeen_113 : decode cX10_keepSeen 113 = .ok (.iaload, 1) := by decide +kernel
theorem dX10_keepSeen_114 : decode cX10_keepSeen 114 = .ok (.iastore, 1) := by decide +kernel
theorem dX10_keepSeen_115 : decode cX10_keepSeen 115 = .ok (.iinc 6 1, 3) := by decide +kernel
theorem dX10_keepSeen_118 : decode cX10_keepSeen 118 = .ok (.iinc 7 1, 3) := by decide +kernel
theorem dX10_keepSeen_121 : decode cX10_keepSeen 121 = .ok (.goto (-101), 3) := by decide +kernel
theorem dX10_keepSeen_124 : decode cX10_keepSeen 124 = .ok (.aload_n 0, 1) := by decide +kernel
theorem dX10_keepSeen_125 : decode cX10_keepSeen 125 = .ok (.getfield 18, 3) := by decide +kernel
theorem dX10_keepSeen_128 : decode cX10_keepSeen 128 = .ok (.iload_n 1, 1) := by decide +kernel
theorem dX10_keepSeen_129 : decode cX10_keepSeen 129 = .ok (.iload 6, 2) := by decide +kernel
theorem dX10_keepSeen_131 : decode cX10_keepSeen 131 = .ok (.iastore, 1) := by decide +kernel
theorem dX10_keepSeen_132 : decode cX10_keepSeen 132 = .ok (.iload 5, 2) := by decide +kernel
theorem dX10_keepSeen_134 : decode cX10_keepSeen 134 = .ok (.iload 6, 2) := by decide +kernel
theorem dX10_keepSeen_136 : decode cX10_keepSeen 136 = .ok (.isub, 1) := by decide +kernel
theorem dX10_keepSeen_137 : decode cX10_keepSeen 137 = .ok (.ireturn, 1) := by decide +kernel
theorem dX10_isOneWithin_0 : decode cX10_isOneWithin 0 = .ok (.iconst 0, 1) := by decide +kernel
theorem dX10_isOneWithin_1 : decode cX10_isOneWithin 1 = .ok (.istore 4, 2) := by decide +kernel
theorem dX10_isOneWithin_3 : decode cX10_isOneWithin 3 = .ok (.iload 4, 2) := by decide +kernel
theorem dX10_isOneWithin_5 : decode cX10_isOneWithin 5 = .ok (.iload_n 1, 1) := by decide +kernel
theorem dX10_isOneWithin_6 : decode cX10_isOneWithin 6 = .ok (.if_icmp .ge 34, 3) := by decide +kernel
theorem dX10_isOneWithin_9 : decode cX10_isOneWithin 9 = .ok (.iload 4, 2) := by decide +kernel
theorem dX10_isOneWithin_11 : decode cX10_isOneWithin 11 = .ok (.aload_n 0, 1) := by decide +kernel
theorem dX10_isOneWithin_12 : decode cX10_isOneWithin 12 = .ok (.arraylength, 1) := by decide +kernel
theorem dX10_isOneWithin_13 : decode cX10_isOneWithin 13 = .ok (.if_icmp .ge 27, 3) := by decide +kernel
theorem dX10_isOneWithin_16 : decode cX10_isOneWithin 16 = .ok (.aload_n 0, 1) := by decide +kernel
theorem dX10_isOneWithin_17 : decode cX10_isOneWithin 17 = .ok (.iload 4, 2) := by decide +kernel
theorem dX10_isOneWithin_19 : decode cX10_isOneWithin 19 = .ok (.iaload, 1) := by decide +kernel
theorem dX10_isOneWithin_20 : decode cX10_isOneWithin 20 = .ok (.iload_n 2, 1) := by decide +kernel
theorem dX10_isOneWithin_21 : decode cX10_isOneWithin 21 = .ok (.if_icmp .lt 13, 3) := by decide +kernel
theorem dX10_isOneWithin_24 : decode cX10_isOneWithin 24 = .ok (.aload_n 0, 1) := by decide +kernel
theorem dX10_isOneWithin_25 : decode cX10_isOneWithin 25 = .ok (.iload 4, 2) := by decide +kernel
theorem dX10_isOneWithin_27 : decode cX10_isOneWithin 27 = .ok (.iaload, 1) := by decide +kernel
theorem dX10_isOneWithin_28 : decode cX10_isOneWithin 28 = .ok (.iload_n 3, 1) := by decide +kernel
theorem dX10_isOneWithin_29 : decode cX10_isOneWithin 29 = .ok (.if_icmp .ge 5, 3) := by decide +kernel
theorem dX10_isOneWithin_32 : decode cX10_isOneWithin 32 = .ok (.iconst 1, 1) := by decide +kernel
theorem dX10_isOneWithin_33 : decode cX10_isOneWithin 33 = .ok (.ireturn, 1) := by decide +kernel
theorem dX10_isOneWithin_34 : decode cX10_isOneWithin 34 = .ok (.iinc 4 1, 3) := by decide +kernel
theorem dX10_isOneWithin_37 : decode cX10_isOneWithin 37 = .ok (.goto (-34), 3) := by decide +kernel
theorem dX10_isOneWithin_40 : decode cX10_isOneWithin 40 = .ok (.iconst 0, 1) := by decide +kernel
theorem dX10_isOneWithin_41 : decode cX10_isOneWithin 41 = .ok (.ireturn, 1) := by decide +kernel
theorem dX10_lastPlace_0 : decode cX10_lastPlace 0 = .ok (.iload_n 1, 1) := by decide +kernel
theorem dX10_lastPlace_1 : decode cX10_lastPlace 1 = .ok (.bipush 8, 2) := by decide +kernel
theorem dX10_lastPlace_3 : decode cX10_lastPlace 3 = .ok (.imul, 1) := by decide +kernel
theorem dX10_lastPlace_4 : decode cX10_lastPlace 4 = .ok (.aload_n 0, 1) := by decide +kernel
theorem dX10_lastPlace_5 : decode cX10_lastPlace 5 = .ok (.getfield 18, 3) := by decide +kernel
theorem dX10_lastPlace_8 : decode cX10_lastPlace 8 = .ok (.iload_n 1, 1) := by decide +kernel
theorem dX10_lastPlace_9 : decode cX10_lastPlace 9 = .ok (.iaload, 1) := by decide +kernel
theorem dX10_lastPlace_10 : decode cX10_lastPlace 10 = .ok (.iadd, 1) := by decide +kernel
theorem dX10_lastPlace_11 : decode cX10_lastPlace 11 = .ok (.iconst 1, 1) := by decide +kernel
theorem dX10_lastPlace_12 : decode cX10_lastPlace 12 = .ok (.isub, 1) := by decide +kernel
theorem dX10_lastPlace_13 : decode cX10_lastPlace 13 = .ok (.ireturn, 1) := by decide +kernel
theorem dX11_init_0 : decode cX11_init 0 = .ok (.aload_n 0, 1) := by decide +kernel
theorem dX11_init_1 : decode cX11_init 1 = .ok (.invokespecial 1, 3) := by decide +kernel
theorem dX11_init_4 : decode cX11_init 4 = .ok (.aload_n 0, 1) := by decide +kernel
theorem dX11_init_5 : decode cX11_init 5 = .ok (.new 7, 3) := by decide +kernel
theorem dX11_init_8 : decode cX11_init 8 = .ok (.dup, 1) := by decide +kernel
theorem dX11_init_9 : decode cX11_init 9 = .ok (.invokespecial 9, 3) := by decide +kernel
theorem dX11_init_12 : decode cX11_init 12 = .ok (.putfield 10, 3) := by decide +kernel
theorem dX11_init_15 : decode cX11_init 15 = .ok (.aload_n 0, 1) := by decide +kernel
theorem dX11_init_16 : decode cX11_init 16 = .ok (.bipush 8, 2) := by decide +kernel
theorem dX11_init_18 : decode cX11_init 18 = .ok (.anewarray 7, 3) := by decide +kernel
theorem dX11_init_21 : decode cX11_init 21 = .ok (.putfield 16, 3) := by decide +kernel
theorem dX11_init_24 : decode cX11_init 24 = .ok (.aload_n 0, 1) := by decide +kernel
theorem dX11_init_25 : decode cX11_init 25 = .ok (.iconst 2, 1) := by decide +kernel
theorem dX11_init_26 : decode cX11_init 26 = .ok (.anewarray 7, 3) := by decide +kernel
theorem dX11_init_29 : decode cX11_init 29 = .ok (.putfield 20, 3) := by decide +kernel
theorem dX11_init_32 : decode cX11_init 32 = .ok (.aload_n 0, 1) := by decide +kernel
theorem dX11_init_33 : decode cX11_init 33 = .ok (.iconst 2, 1) := by decide +kernel
theorem dX11_init_34 : decode cX11_init 34 = .ok (.newarray .boolean, 2) := by decide +kernel
theorem dX11_init_36 : decode cX11_init 36 = .ok (.putfield 23, 3) := by decide +kernel
theorem dX11_init_39 : decode cX11_init 39 = .ok (.aload_n 0, 1) := by decide +kernel
theorem dX11_init_40 : decode cX11_init 40 = .ok (.new 27, 3) := by decide +kernel
theorem dX11_init_43 : decode cX11_init 43 = .ok (.dup, 1) := by decide +kernel
theorem dX11_init_44 : decode cX11_init 44 = .ok (.invokespecial 29, 3) := by decide +kernel
theorem dX11_init_47 : decode cX11_init 47 = .ok (.putfield 30, 3) := by decide +kernel
theorem dX11_init_50 : decode cX11_init 50 = .ok (.aload_n 0, 1) := by decide +kernel
theorem dX11_init_51 : decode cX11_init 51 = .ok (.new 34, 3) := by decide +kernel
theorem dX11_init_54 : decode cX11_init 54 = .ok (.dup, 1) := by decide +kernel
theorem dX11_init_55 : decode cX11_init 55 = .ok (.invokespecial 36, 3) := by decide +kernel
theorem dX11_init_58 : decode cX11_init 58 = .ok (.putfield 37, 3) := by decide +kernel
theorem dX11_init_61 : decode cX11_init 61 = .ok (.aload_n 0, 1) := by decide +kernel
theorem dX11_init_62 : decode cX11_init 62 = .ok (.new 34, 3) := by decide +kernel
theorem dX11_init_65 : decode cX11_init 65 = .ok (.dup, 1) := by decide +kernel
theorem dX11_init_66 : decode cX11_init 66 = .ok (.invokespecial 36, 3) := by decide +kernel
theorem dX11_init_69 : decode cX11_init 69 = .ok (.putfield 41, 3) := by decide +kernel
theorem dX11_init_72 : decode cX11_init 72 = .ok (.aload_n 0, 1) := by decide +kernel
theorem dX11_init_73 : decode cX11_init 73 = .ok (.new 44, 3) := by decide +kernel
theorem dX11_init_76 : decode cX11_init 76 = .ok (.dup, 1) := by decide +kernel
theorem dX11_init_77 : decode cX11_init 77 = .ok (.invokespecial 46, 3) := by decide +kernel
theorem dX11_init_80 : decode cX11_init 80 = .ok (.putfield 47, 3) := by decide +kernel
theorem dX11_init_83 : decode cX11_init 83 = .ok (.aload_n 0, 1) := by decide +kernel
theorem dX11_init_84 : decode cX11_init 84 = .ok (.new 51, 3) := by decide +kernel
theorem dX11_init_87 : decode cX11_init 87 = .ok (.dup, 1) := by decide +kernel
theorem dX11_init_88 : decode cX11_init 88 = .ok (.invokespecial 53, 3) := by decide +kernel
theorem dX11_init_91 : decode cX11_init 91 = .ok (.putfield 54, 3) := by decide +kernel
theorem dX11_init_94 : decode cX11_init 94 = .ok (.iconst 0, 1) := by decide +kernel
theorem dX11_init_95 : decode cX11_init 95 = .ok (.istore_n 1, 1) := by decide +kernel
theorem dX11_init_96 : decode cX11_init 96 = .ok (.iload_n 1, 1) := by decide +kernel
theorem dX11_init_97 : decode cX11_init 97 = .ok (.bipush 8, 2) := by decide +kernel
theorem dX11_init_99 : decode cX11_init 99 = .ok (.if_icmp .ge 22, 3) := by decide +kernel
theorem dX11_init_102 : decode cX11_init 102 = .ok (.aload_n 0, 1) := by decide +kernel
theorem dX11_init_103 : decode cX11_init 103 = .ok (.getfield 16, 3) := by decide +kernel
theorem dX11_init_106 : decode cX11_init 106 = .ok (.iload_n 1, 1) := by decide +kernel
theorem dX11_init_107 : decode cX11_init 107 = .ok (.new 7, 3) := by decide +kernel
theorem dX11_init_110 : decode cX11_init 110 = .ok (.dup, 1) := by decide +kernel
theorem dX11_init_111 : decode cX11_init 111 = .ok (.invokespecial 9, 3) := by decide +kernel
theorem dX11_init_114 : decode cX11_init 114 = .ok (.aastore, 1) := by decide +kernel
theorem dX11_init_115 : decode cX11_init 115 = .ok (.iinc 1 1, 3) := by decide +kernel
theorem dX11_init_118 : decode cX11_init 118 = .ok (.goto (-22), 3) := by decide +kernel
theorem dX11_init_121 : decode cX11_init 121 = .ok (.iconst 0, 1) := by decide +kernel
theorem dX11_init_122 : decode cX11_init 122 = .ok (.istore_n 1, 1) := by decide +kernel
theorem dX11_init_123 : decode cX11_init 123 = .ok (.iload_n 1, 1) := by decide +kernel
theorem dX11_init_124 : decode cX11_init 124 = .ok (.iconst 2, 1) := by decide +kernel
theorem dX11_init_125 : decode cX11_init 125 = .ok (.if_icmp .ge 22, 3) := by decide +kernel
theorem dX11_init_128 : decode cX11_init 128 = .ok (.aload_n 0, 1) := by decide +kernel
theorem dX11_init_129 : decode cX11_init 129 = .ok (.getfield 20, 3) := by decide +kernel
theorem dX11_init_132 : decode cX11_init 132 = .ok (.iload_n 1, 1) := by decide +kernel
theorem dX11_init_133 : decode cX11_init 133 = .ok (.new 7, 3) := by decide +kernel
theorem dX11_init_136 : decode cX11_init 136 = .ok (.dup, 1) := by decide +kernel
theorem dX11_init_137 : decode cX11_init 137 = .ok (.invokespecial 9, 3) := by decide +kernel
theorem dX11_init_140 : decode cX11_init 140 = .ok (.aastore, 1) := by decide +kernel
theorem dX11_init_141 : decode cX11_init 141 = .ok (.iinc 1 1, 3) := by decide +kernel
theorem dX11_init_144 : decode cX11_init 144 = .ok (.goto (-21), 3) := by decide +kernel
theorem dX11_init_147 : decode cX11_init 147 = .ok (.return_, 1) := by decide +kernel
theorem dX11_begin_0 : decode cX11_begin 0 = .ok (.iload_n 1, 1) := by decide +kernel
theorem dX11_begin_1 : decode cX11_begin 1 = .ok (.invokestatic 58, 3) := by decide +kernel
theorem dX11_begin_4 : decode cX11_begin 4 = .ok (.ifCond .ne 6, 3) := by decide +kernel
theorem dX11_begin_7 : decode cX11_begin 7 = .ok (.bipush (-2), 2) := by decide +kernel
theorem dX11_begin_9 : decode cX11_begin 9 = .ok (.ireturn, 1) := by decide +kernel
theorem dX11_begin_10 : decode cX11_begin 10 = .ok (.aload_n 0, 1) := by decide +kernel
theorem dX11_begin_11 : decode cX11_begin 11 = .ok (.getfield 10, 3) := by decide +kernel
theorem dX11_begin_14 : decode cX11_begin 14 = .ok (.getfield 62, 3) := by decide +kernel
theorem dX11_begin_17 : decode cX11_begin 17 = .ok (.iload_n 1, 1) := by decide +kernel
theorem dX11_begin_18 : decode cX11_begin 18 = .ok (.aaload, 1) := by decide +kernel
theorem dX11_begin_19 : decode cX11_begin 19 = .ok (.astore_n 2, 1) := by decide +kernel
theorem dX11_begin_20 : decode cX11_begin 20 = .ok (.aload_n 2, 1) := by decide +kernel
theorem dX11_begin_21 : decode cX11_begin 21 = .ok (.getfield 66, 3) := by decide +kernel
theorem dX11_begin_24 : decode cX11_begin 24 = .ok (.ifCond .eq 6, 3) := by decide +kernel
theorem dX11_begin_27 : decode cX11_begin 27 = .ok (.bipush (-5), 2) := by decide +kernel
theorem dX11_begin_29 : decode cX11_begin 29 = .ok (.ireturn, 1) := by decide +kernel
theorem dX11_begin_30 : decode cX11_begin 30 = .ok (.aload_n 0, 1) := by decide +kernel
theorem dX11_begin_31 : decode cX11_begin 31 = .ok (.invokevirtual 72, 3) := by decide +kernel
theorem dX11_begin_34 : decode cX11_begin 34 = .ok (.aload_n 2, 1) := by decide +kernel
theorem dX11_begin_35 : decode cX11_begin 35 = .ok (.aload_n 0, 1) := by decide +kernel
theorem dX11_begin_36 : decode cX11_begin 36 = .ok (.getfield 10, 3) := by decide +kernel
theorem dX11_begin_39 : decode cX11_begin 39 = .ok (.getfield 75, 3) := by decide +kernel
theorem dX11_begin_42 : decode cX11_begin 42 = .ok (.invokevirtual 79, 3) := by decide +kernel
theorem dX11_begin_45 : decode cX11_begin 45 = .ok (.aload_n 2, 1) := by decide +kernel
theorem dX11_begin_46 : decode cX11_begin 46 = .ok (.getfield 83, 3) := by decide +kernel
theorem dX11_begin_49 : decode cX11_begin 49 = .ok (.ireturn, 1) := by decide +kernel
theorem dX11_put_0 : decode cX11_put 0 = .ok (.iload_n 1, 1) := by decide +kernel
theorem dX11_put_1 : decode cX11_put 1 = .ok (.invokestatic 58, 3) := by decide +kernel
theorem dX11_put_4 : decode cX11_put 4 = .ok (.ifCond .eq 10, 3) := by decide +kernel
theorem dX11_put_7 : decode cX11_put 7 = .ok (.iload_n 2, 1) := by decide +kernel
theorem dX11_put_8 : decode cX11_put 8 = .ok (.invokestatic 86, 3) := by decide +kernel
theorem dX11_put_11 : decode cX11_put 11 = .ok (.ifCond .ne 6, 3) := by decide +kernel
theorem dX11_put_14 : decode cX11_put 14 = .ok (.bipush (-2), 2) := by decide +kernel
theorem dX11_put_16 : decode cX11_put 16 = .ok (.ireturn, 1) := by decide +kernel
theorem dX11_put_17 : decode cX11_put 17 = .ok (.iload_n 3, 1) := by decide +kernel
theorem dX11_put_18 : decode cX11_put 18 = .ok (.iload 4, 2) := by decide +kernel
theorem dX11_put_20 : decode cX11_put 20 = .ok (.iload 5, 2) := by decide +kernel
theorem dX11_put_22 : decode cX11_put 22 = .ok (.invokestatic 89, 3) := by decide +kernel
theorem dX11_put_25 : decode cX11_put 25 = .ok (.ifCond .ne 6, 3) := by decide +kernel
theorem dX11_put_28 : decode cX11_put 28 = .ok (.bipush (-3), 2) := by decide +kernel
theorem dX11_put_30 : decode cX11_put 30 = .ok (.ireturn, 1) := by decide +kernel
theorem dX11_put_31 : decode cX11_put 31 = .ok (.aload_n 0, 1) := by decide +kernel
theorem dX11_put_32 : decode cX11_put 32 = .ok (.iload_n 1, 1) := by decide +kernel
theorem dX11_put_33 : decode cX11_put 33 = .ok (.iload_n 2, 1) := by decide +kernel
theorem dX11_put_34 : decode cX11_put 34 = .ok (.invokevirtual 93, 3) := by decide +kernel
theorem dX11_put_37 : decode cX11_put 37 = .ok (.istore 6, 2) := by decide +kernel
theorem dX11_put_39 : decode cX11_put 39 = .ok (.iload 6, 2) := by decide +kernel
theorem dX11_put_41 : decode cX11_put 41 = .ok (.ifCond .eq 6, 3) := by decide +kernel
theorem dX11_put_44 : decode cX11_put 44 = .ok (.iload 6, 2) := by decide +kernel
theorem dX11_put_46 : decode cX11_put 46 = .ok (.ireturn, 1) := by decide +kernel
theorem dX11_put_47 : decode cX11_put 47 = .ok (.aload_n 0, 1) := by decide +kernel
theorem dX11_put_48 : decode cX11_put 48 = .ok (.invokevirtual 72, 3) := by decide +kernel
theorem dX11_put_51 : decode cX11_put 51 = .ok (.aload_n 0, 1) := by decide +kernel
theorem dX11_put_52 : decode cX11_put 52 = .ok (.getfield 10, 3) := by decide +kernel
theorem dX11_put_55 : decode cX11_put 55 = .ok (.getfield 62, 3) := by decide +kernel
theorem dX11_put_58 : decode cX11_put 58 = .ok (.iload_n 1, 1) := by decide +kernel
theorem dX11_put_59 : decode cX11_put 59 = .ok (.aaload, 1) := by decide +kernel
theorem dX11_put_60 : decode cX11_put 60 = .ok (.astore 7, 2) := by decide +kernel
theorem dX11_put_62 : decode cX11_put 62 = .ok (.aload 7, 2) := by decide +kernel
theorem dX11_put_64 : decode cX11_put 64 = .ok (.iload_n 2, 1) := by decide +kernel
theorem dX11_put_65 : decode cX11_put 65 = .ok (.iload_n 3, 1) := by decide +kernel
theorem dX11_put_66 : decode cX11_put 66 = .ok (.iload 4, 2) := by decide +kernel
theorem dX11_put_68 : decode cX11_put 68 = .ok (.iload 5, 2) := by decide +kernel
theorem dX11_put_70 : decode cX11_put 70 = .ok (.invokestatic 97, 3) := by decide +kernel
theorem dX11_put_73 : decode cX11_put 73 = .ok (.invokevirtual 101, 3) := by decide +kernel
theorem dX11_put_76 : decode cX11_put 76 = .ok (.aload 7, 2) := by decide +kernel
theorem dX11_put_78 : decode cX11_put 78 = .ok (.getfield 105, 3) := by decide +kernel
theorem dX11_put_81 : decode cX11_put 81 = .ok (.ireturn, 1) := by decide +kernel
theorem dX11_erase_0 : decode cX11_erase 0 = .ok (.aload_n 0, 1) := by decide +kernel
theorem dX11_erase_1 : decode cX11_erase 1 = .ok (.iload_n 1, 1) := by decide +kernel
theorem dX11_erase_2 : decode cX11_erase 2 = .ok (.iload_n 2, 1) := by decide +kernel
theorem dX11_erase_3 : decode cX11_erase 3 = .ok (.invokevirtual 93, 3) := by decide +kernel
theorem dX11_erase_6 : decode cX11_erase 6 = .ok (.istore_n 3, 1) := by decide +kernel
theorem dX11_erase_7 : decode cX11_erase 7 = .ok (.iload_n 3, 1) := by decide +kernel
theorem dX11_erase_8 : decode cX11_erase 8 = .ok (.ifCond .eq 5, 3) := by decide +kernel
theorem dX11_erase_11 : decode cX11_erase 11 = .ok (.iload_n 3, 1) := by decide +kernel
theorem dX11_erase_12 : decode cX11_erase 12 = .ok (.ireturn, 1) := by decide +kernel
theorem dX11_erase_13 : decode cX11_erase 13 = .ok (.aload_n 0, 1) := by decide +kernel
theorem dX11_erase_14 : decode cX11_erase 14 = .ok (.invokevirtual 72, 3) := by decide +kernel
theorem dX11_erase_17 : decode cX11_erase 17 = .ok (.aload_n 0, 1) := by decide +kernel
theorem dX11_erase_18 : decode cX11_erase 18 = .ok (.getfield 10, 3) := by decide +kernel
theorem dX11_erase_21 : decode cX11_erase 21 = .ok (.iload_n 1, 1) := by decide +kernel
theorem dX11_erase_22 : decode cX11_erase 22 = .ok (.iload_n 2, 1) := by decide +kernel
theorem dX11_erase_23 : decode cX11_erase 23 = .ok (.invokevirtual 108, 3) := by decide +kernel
theorem dX11_erase_26 : decode cX11_erase 26 = .ok (.istore 4, 2) := by decide +kernel
theorem dX11_erase_28 : decode cX11_erase 28 = .ok (.aload_n 0, 1) := by decide +kernel
theorem dX11_erase_29 : decode cX11_erase 29 = .ok (.getfield 10, 3) := by decide +kernel
theorem dX11_erase_32 : decode cX11_erase 32 = .ok (.getfield 62, 3) := by decide +kernel
theorem dX11_erase_35 : decode cX11_erase 35 = .ok (.iload_n 1, 1) := by decide +kernel
theorem dX11_erase_36 : decode cX11_erase 36 = .ok (.aaload, 1) := by decide +kernel
theorem dX11_erase_37 : decode cX11_erase 37 = .ok (.iload_n 2, 1) := by decide +kernel
theorem dX11_erase_38 : decode cX11_erase 38 = .ok (.iconst (-1), 1) := by decide +kernel
theorem dX11_erase_39 : decode cX11_erase 39 = .ok (.invokevirtual 101, 3) := by decide +kernel
theorem dX11_erase_42 : decode cX11_erase 42 = .ok (.iload 4, 2) := by decide +kernel
theorem dX11_erase_44 : decode cX11_erase 44 = .ok (.iconst (-1), 1) := by decide +kernel
theorem dX11_erase_45 : decode cX11_erase 45 = .ok (.if_icmp .ne 7, 3) := by decide +kernel
theorem dX11_erase_48 : decode cX11_erase 48 = .ok (.iconst 0, 1) := by decide +kernel
theorem dX11_erase_49 : decode cX11_erase 49 = .ok (.goto 4, 3) := by decide +kernel
theorem dX11_erase_52 : decode cX11_erase 52 = .ok (.iconst 1, 1) := by decide +kernel
theorem dX11_erase_53 : decode cX11_erase 53 = .ok (.ireturn, 1) := by decide +kernel
theorem dX11_commit_0 : decode cX11_commit 0 = .ok (.iload_n 1, 1) := by decide +kernel
theorem dX11_commit_1 : decode cX11_commit 1 = .ok (.invokestatic 58, 3) := by decide +kernel
theorem dX11_commit_4 : decode cX11_commit 4 = .ok (.ifCond .ne 6, 3) := by decide +kernel
theorem dX11_commit_7 : decode cX11_commit 7 = .ok (.bipush (-2), 2) := by decide +kernel
theorem dX11_commit_9 : decode cX11_commit 9 = .ok (.ireturn, 1) := by decide +kernel
theorem dX11_commit_10 : decode cX11_commit 10 = .ok (.aload_n 0, 1) := by decide +kernel
theorem dX11_commit_11 : decode cX11_commit 11 = .ok (.getfield 10, 3) := by decide +kernel
theorem dX11_commit_14 : decode cX11_commit 14 = .ok (.getfield 62, 3) := by decide +kernel
theorem dX11_commit_17 : decode cX11_commit 17 = .ok (.iload_n 1, 1) := by decide +kernel
theorem dX11_commit_18 : decode cX11_commit 18 = .ok (.aaload, 1) := by decide +kernel
theorem dX11_commit_19 : decode cX11_commit 19 = .ok (.astore_n 2, 1) := by decide +kernel
theorem dX11_commit_20 : decode cX11_commit 20 = .ok (.aload_n 2, 1) := by decide +kernel
theorem dX11_commit_21 : decode cX11_commit 21 = .ok (.getfield 66, 3) := by decide +kernel
theorem dX11_commit_24 : decode cX11_commit 24 = .ok (.ifCond .ne 6, 3) := by decide +kernel
theorem dX11_commit_27 : decode cX11_commit 27 = .ok (.bipush (-5), 2) := by decide +kernel
theorem dX11_commit_29 : decode cX11_commit 29 = .ok (.ireturn, 1) := by decide +kernel
theorem dX11_commit_30 : decode cX11_commit 30 = .ok (.aload_n 0, 1) := by decide +kernel
theorem dX11_commit_31 : decode cX11_commit 31 = .ok (.invokevirtual 72, 3) := by decide +kernel
theorem dX11_commit_34 : decode cX11_commit 34 = .ok (.aload_n 0, 1) := by decide +kernel
theorem dX11_commit_35 : decode cX11_commit 35 = .ok (.aload_n 0, 1) := by decide +kernel
theorem dX11_commit_36 : decode cX11_commit 36 = .ok (.getfield 10, 3) := by decide +kernel
theorem dX11_commit_39 : decode cX11_commit 39 = .ok (.aload_n 2, 1) := by decide +kernel
theorem dX11_commit_40 : decode cX11_commit 40 = .ok (.aload_n 0, 1) := by decide +kernel
theorem dX11_commit_41 : decode cX11_commit 41 = .ok (.getfield 54, 3) := by decide +kernel
theorem dX11_commit_44 : decode cX11_commit 44 = .ok (.invokevirtual 111, 3) := by decide +kernel
theorem dX11_commit_47 : decode cX11_commit 47 = .ok (.putfield 115, 3) := by decide +kernel
theorem dX11_commit_50 : decode cX11_commit 50 = .ok (.aload_n 0, 1) := by decide +kernel
theorem dX11_commit_51 : decode cX11_commit 51 = .ok (.getfield 115, 3) := by decide +kernel
theorem dX11_commit_54 : decode cX11_commit 54 = .ok (.ifCond .ne 19, 3) := by decide +kernel
theorem dX11_commit_57 : decode cX11_commit 57 = .ok (.aload_n 0, 1) := by decide +kernel
theorem dX11_commit_58 : decode cX11_commit 58 = .ok (.getfield 10, 3) := by decide +kernel
theorem dX11_commit_61 : decode cX11_commit 61 = .ok (.aload_n 2, 1) := by decide +kernel
theorem dX11_commit_62 : decode cX11_commit 62 = .ok (.invokevirtual 118, 3) := by decide +kernel
theorem dX11_commit_65 : decode cX11_commit 65 = .ok (.aload_n 0, 1) := by decide +kernel
theorem dX11_commit_66 : decode cX11_commit 66 = .ok (.getfield 10, 3) := by decide +kernel
theorem dX11_commit_69 : decode cX11_commit 69 = .ok (.getfield 75, 3) := by decide +kernel
theorem dX11_commit_72 : decode cX11_commit 72 = .ok (.ireturn, 1) := by decide +kernel
theorem dX11_commit_73 : decode cX11_commit 73 = .ok (.aload_n 0, 1) := by decide +kernel
theorem dX11_commit_74 : decode cX11_commit 74 = .ok (.getfield 115, 3) := by decide +kernel
theorem dX11_commit_77 : decode cX11_commit 77 = .ok (.iconst 1, 1) := by decide +kernel
theorem dX11_commit_78 : decode cX11_commit 78 = .ok (.if_icmp .eq 11, 3) := by decide +kernel
theorem dX11_commit_81 : decode cX11_commit 81 = .ok (.aload_n 0, 1) := by decide +kernel
theorem dX11_commit_82 : decode cX11_commit 82 = .ok (.getfield 115, 3) := by decide +kernel
theorem dX11_commit_85 : decode cX11_commit 85 = .ok (.iconst 3, 1) := by decide +kernel
theorem dX11_commit_86 : decode cX11_commit 86 = .ok (.if_icmp .ne 7, 3) := by decide +kernel
theorem dX11_commit_89 : decode cX11_commit 89 = .ok (.aload_n 2, 1) := by decide +kernel
theorem dX11_commit_90 : decode cX11_commit 90 = .ok (.invokevirtual 122, 3) := by decide +kernel
theorem dX11_commit_93 : decode cX11_commit 93 = .ok (.iconst 0, 1) := by decide +kernel
theorem dX11_commit_94 : decode cX11_commit 94 = .ok (.ireturn, 1) := by decide +kernel
theorem dX11_why_0 : decode cX11_why 0 = .ok (.aload_n 0, 1) := by decide +kernel
theorem dX11_why_1 : decode cX11_why 1 = .ok (.getfield 115, 3) := by decide +kernel
theorem dX11_why_4 : decode cX11_why 4 = .ok (.ireturn, 1) := by decide +kernel
theorem dX11_roll_0 : decode cX11_roll 0 = .ok (.iload_n 1, 1) := by decide +kernel
theorem dX11_roll_1 : decode cX11_roll 1 = .ok (.invokestatic 58, 3) := by decide +kernel
theorem dX11_roll_4 : decode cX11_roll 4 = .ok (.ifCond .ne 6, 3) := by decide +kernel
theorem dX11_roll_7 : decode cX11_roll 7 = .ok (.bipush (-2), 2) := by decide +kernel
theorem dX11_roll_9 : decode cX11_roll 9 = .ok (.ireturn, 1) := by decide +kernel
theorem dX11_roll_10 : decode cX11_roll 10 = .ok (.aload_n 0, 1) := by decide +kernel
theorem dX11_roll_11 : decode cX11_roll 11 = .ok (.getfield 10, 3) := by decide +kernel
theorem dX11_roll_14 : decode cX11_roll 14 = .ok (.getfield 62, 3) := by decide +kernel
theorem dX11_roll_17 : decode cX11_roll 17 = .ok (.iload_n 1, 1) := by decide +kernel
theorem dX11_roll_18 : decode cX11_roll 18 = .ok (.aaload, 1) := by decide +kernel
theorem dX11_roll_19 : decode cX11_roll 19 = .ok (.astore_n 2, 1) := by decide +kernel
theorem dX11_roll_20 : decode cX11_roll 20 = .ok (.aload_n 2, 1) := by decide +kernel
theorem dX11_roll_21 : decode cX11_roll 21 = .ok (.getfield 66, 3) := by decide +kernel
theorem dX11_roll_24 : decode cX11_roll 24 = .ok (.ifCond .ne 6, 3) := by decide +kernel
theorem dX11_roll_27 : decode cX11_roll 27 = .ok (.bipush (-5), 2) := by decide +kernel
theorem dX11_roll_29 : decode cX11_roll 29 = .ok (.ireturn, 1) := by decide +kernel
theorem dX11_roll_30 : decode cX11_roll 30 = .ok (.aload_n 0, 1) := by decide +kernel
theorem dX11_roll_31 : decode cX11_roll 31 = .ok (.invokevirtual 72, 3) := by decide +kernel
theorem dX11_roll_34 : decode cX11_roll 34 = .ok (.aload_n 2, 1) := by decide +kernel
theorem dX11_roll_35 : decode cX11_roll 35 = .ok (.getfield 105, 3) := by decide +kernel
theorem dX11_roll_38 : decode cX11_roll 38 = .ok (.istore_n 3, 1) := by decide +kernel
theorem dX11_roll_39 : decode cX11_roll 39 = .ok (.aload_n 2, 1) := by decide +kernel
theorem dX11_roll_40 : decode cX11_roll 40 = .ok (.invokevirtual 122, 3) := by decide +kernel
theorem dX11_roll_43 : decode cX11_roll 43 = .ok (.iload_n 3, 1) := by decide +kernel
theorem dX11_roll_44 : decode cX11_roll 44 = .ok (.ireturn, 1) := by decide +kernel
theorem dX11_see_0 : decode cX11_see 0 = .ok (.iload_n 1, 1) := by decide +kernel
theorem dX11_see_1 : decode cX11_see 1 = .ok (.invokestatic 125, 3) := by decide +kernel
theorem dX11_see_4 : decode cX11_see 4 = .ok (.ifCond .eq 19, 3) := by decide +kernel
theorem dX11_see_7 : decode cX11_see 7 = .ok (.iload_n 2, 1) := by decide +kernel
theorem dX11_see_8 : decode cX11_see 8 = .ok (.invokestatic 86, 3) := by decide +kernel
theorem dX11_see_11 : decode cX11_see 11 = .ok (.ifCond .eq 12, 3) := by decide +kernel
theorem dX11_see_14 : decode cX11_see 14 = .ok (.iload_n 3, 1) := by decide +kernel
theorem dX11_see_15 : decode cX11_see 15 = .ok (.ifCond .lt 8, 3) := by decide +kernel
theorem dX11_see_18 : decode cX11_see 18 = .ok (.iload_n 3, 1) := by decide +kernel
theorem dX11_see_19 : decode cX11_see 19 = .ok (.iconst 3, 1) := by decide +kernel
theorem dX11_see_20 : decode cX11_see 20 = .ok (.if_icmp .le 6, 3) := by decide +kernel
theorem dX11_see_23 : decode cX11_see 23 = .ok (.bipush (-2), 2) := by decide +kernel
theorem dX11_see_25 : decode cX11_see 25 = .ok (.ireturn, 1) := by decide +kernel
theorem dX11_see_26 : decode cX11_see 26 = .ok (.aload_n 0, 1) := by decide +kernel
theorem dX11_see_27 : decode cX11_see 27 = .ok (.iload_n 1, 1) := by decide +kernel
theorem dX11_see_28 : decode cX11_see 28 = .ok (.invokevirtual 128, 3) := by decide +kernel
theorem dX11_see_31 : decode cX11_see 31 = .ok (.ifCond .ne 6, 3) := by decide +kernel
theorem dX11_see_34 : decode cX11_see 34 = .ok (.bipush (-5), 2) := by decide +kernel
theorem dX11_see_36 : decode cX11_see 36 = .ok (.ireturn, 1) := by decide +kernel
theorem dX11_see_37 : decode cX11_see 37 = .ok (.aload_n 0, 1) := by decide +kernel
theorem dX11_see_38 : decode cX11_see 38 = .ok (.getfield 10, 3) := by decide +kernel
theorem dX11_see_41 : decode cX11_see 41 = .ok (.iload_n 1, 1) := by decide +kernel
theorem dX11_see_42 : decode cX11_see 42 = .ok (.iload_n 2, 1) := by decide +kernel
theorem dX11_see_43 : decode cX11_see 43 = .ok (.invokevirtual 108, 3) := by decide +kernel
theorem dX11_see_46 : decode cX11_see 46 = .ok (.istore 4, 2) := by decide +kernel
theorem dX11_see_48 : decode cX11_see 48 = .ok (.iload_n 3, 1) := by decide +kernel
theorem dX11_see_49 : decode cX11_see 49 = .ok (.ifCond .ne 15, 3) := by decide +kernel
theorem dX11_see_52 : decode cX11_see 52 = .ok (.iload 4, 2) := by decide +kernel
theorem dX11_see_54 : decode cX11_see 54 = .ok (.iconst (-1), 1) := by decide +kernel
theorem dX11_see_55 : decode cX11_see 55 = .ok (.if_icmp .ne 7, 3) := by decide +kernel
theorem dX11_see_58 : decode cX11_see 58 = .ok (.iconst 0, 1) := by decide +kernel
theorem dX11_see_59 : decode cX11_see 59 = .ok (.goto 4, 3) := by decide +kernel
theorem dX11_see_62 : decode cX11_see 62 = .ok (.iconst 1, 1) := by decide +kernel
theorem dX11_see_63 : decode cX11_see 63 = .ok (.ireturn, 1) := by decide +kernel
theorem dX11_see_64 : decode cX11_see 64 = .ok (.iload 4, 2) := by decide +kernel
theorem dX11_see_66 : decode cX11_see 66 = .ok (.iconst (-1), 1) := by decide +kernel
theorem dX11_see_67 : decode cX11_see 67 = .ok (.if_icmp .ne 7, 3) := by decide +kernel
theorem dX11_see_70 : decode cX11_see 70 = .ok (.iconst (-1), 1) := by decide +kernel
theorem dX11_see_71 : decode cX11_see 71 = .ok (.goto 11, 3) := by decide +kernel
theorem dX11_see_74 : decode cX11_see 74 = .ok (.iload 4, 2) := by decide +kernel
theorem dX11_see_76 : decode cX11_see 76 = .ok (.iload_n 3, 1) := by decide +kernel
theorem dX11_see_77 : decode cX11_see 77 = .ok (.iconst 1, 1) := by decide +kernel
theorem dX11_see_78 : decode cX11_see 78 = .ok (.isub, 1) := by decide +kernel
theorem dX11_see_79 : decode cX11_see 79 = .ok (.invokestatic 131, 3) := by decide +kernel
theorem dX11_see_82 : decode cX11_see 82 = .ok (.ireturn, 1) := by decide +kernel
theorem dX11_sweep_0 : decode cX11_sweep 0 = .ok (.aload_n 0, 1) := by decide +kernel
theorem dX11_sweep_1 : decode cX11_sweep 1 = .ok (.invokevirtual 72, 3) := by decide +kernel
theorem dX11_sweep_4 : decode cX11_sweep 4 = .ok (.aload_n 0, 1) := by decide +kernel
theorem dX11_sweep_5 : decode cX11_sweep 5 = .ok (.getfield 10, 3) := by decide +kernel
theorem dX11_sweep_8 : decode cX11_sweep 8 = .ok (.invokevirtual 134, 3) := by decide +kernel
theorem dX11_sweep_11 : decode cX11_sweep 11 = .ok (.ireturn, 1) := by decide +kernel
theorem dX11_feed_0 : decode cX11_feed 0 = .ok (.aload_n 0, 1) := by decide +kernel
theorem dX11_feed_1 : decode cX11_feed 1 = .ok (.getfield 30, 3) := by decide +kernel
theorem dX11_feed_4 : decode cX11_feed 4 = .ok (.getfield 138, 3) := by decide +kernel
theorem dX11_feed_7 : decode cX11_feed 7 = .ok (.bipush 20, 2) := by decide +kernel
theorem dX11_feed_9 : decode cX11_feed 9 = .ok (.iadd, 1) := by decide +kernel
theorem dX11_feed_10 : decode cX11_feed 10 = .ok (.bipush 100, 2) := by decide +kernel
theorem dX11_feed_12 : decode cX11_feed 12 = .ok (.if_icmp .le 6, 3) := by decide +kernel
theorem dX11_feed_15 : decode cX11_feed 15 = .ok (.bipush (-4), 2) := by decide +kernel
theorem dX11_feed_17 : decode cX11_feed 17 = .ok (.ireturn, 1) := by decide +kernel
theorem dX11_feed_18 : decode cX11_feed 18 = .ok (.aload_n 0, 1) := by decide +kernel
theorem dX11_feed_19 : decode cX11_feed 19 = .ok (.getfield 30, 3) := by decide +kernel
theorem dX11_feed_22 : decode cX11_feed 22 = .ok (.iload_n 1, 1) := by decide +kernel
theorem dX11_feed_23 : decode cX11_feed 23 = .ok (.invokevirtual 141, 3) := by decide +kernel
theorem dX11_feed_26 : decode cX11_feed 26 = .ok (.aload_n 0, 1) := by decide +kernel
theorem dX11_feed_27 : decode cX11_feed 27 = .ok (.getfield 30, 3) := by decide +kernel
theorem dX11_feed_30 : decode cX11_feed 30 = .ok (.iload_n 2, 1) := by decide +kernel
theorem dX11_feed_31 : decode cX11_feed 31 = .ok (.invokevirtual 141, 3) := by decide +kernel
theorem dX11_feed_34 : decode cX11_feed 34 = .ok (.aload_n 0, 1) := by decide +kernel
theorem dX11_feed_35 : decode cX11_feed 35 = .ok (.getfield 30, 3) := by decide +kernel
theorem dX11_feed_38 : decode cX11_feed 38 = .ok (.iload_n 3, 1) := by decide +kernel
theorem dX11_feed_39 : decode cX11_feed 39 = .ok (.invokevirtual 141, 3) := by decide +kernel
theorem dX11_feed_42 : decode cX11_feed 42 = .ok (.aload_n 0, 1) := by decide +kernel
theorem dX11_feed_43 : decode cX11_feed 43 = .ok (.getfield 30, 3) := by decide +kernel
theorem dX11_feed_46 : decode cX11_feed 46 = .ok (.iload 4, 2) := by decide +kernel
theorem dX11_feed_48 : decode cX11_feed 48 = .ok (.invokevirtual 141, 3) := by decide +kernel
theorem dX11_feed_51 : decode cX11_feed 51 = .ok (.aload_n 0, 1) := by decide +kernel
theorem dX11_feed_52 : decode cX11_feed 52 = .ok (.getfield 30, 3) := by decide +kernel
theorem dX11_feed_55 : decode cX11_feed 55 = .ok (.iload 5, 2) := by decide +kernel
theorem dX11_feed_57 : decode cX11_feed 57 = .ok (.invokevirtual 141, 3) := by decide +kernel
theorem dX11_feed_60 : decode cX11_feed 60 = .ok (.aload_n 0, 1) := by decide +kernel
theorem dX11_feed_61 : decode cX11_feed 61 = .ok (.getfield 30, 3) := by decide +kernel
theorem dX11_feed_64 : decode cX11_feed 64 = .ok (.getfield 138, 3) := by decide +kernel
theorem dX11_feed_67 : decode cX11_feed 67 = .ok (.ireturn, 1) := by decide +kernel
theorem dX11_build_0 : decode cX11_build 0 = .ok (.iload_n 1, 1) := by decide +kernel
theorem dX11_build_1 : decode cX11_build 1 = .ok (.invokestatic 144, 3) := by decide +kernel
theorem dX11_build_4 : decode cX11_build 4 = .ok (.ifCond .ne 6, 3) := by decide +kernel
theorem dX11_build_7 : decode cX11_build 7 = .ok (.bipush (-2), 2) := by decide +kernel
theorem dX11_build_9 : decode cX11_build 9 = .ok (.ireturn, 1) := by decide +kernel
theorem dX11_build_10 : decode cX11_build 10 = .ok (.iload_n 2, 1) := by decide +kernel
theorem dX11_build_11 : decode cX11_build 11 = .ok (.ifCond .lt 14, 3) := by decide +kernel
theorem dX11_build_14 : decode cX11_build 14 = .ok (.iload_n 2, 1) := by decide +kernel
theorem dX11_build_15 : decode cX11_build 15 = .ok (.aload_n 0, 1) := by decide +kernel
theorem dX11_build_16 : decode cX11_build 16 = .ok (.getfield 30, 3) := by decide +kernel
theorem dX11_build_19 : decode cX11_build 19 = .ok (.getfield 138, 3) := by decide +kernel
theorem dX11_build_22 : decode cX11_build 22 = .ok (.if_icmp .le 6, 3) := by decide +kernel
theorem dX11_build_25 : decode cX11_build 25 = .ok (.bipush (-3), 2) := by decide +kernel
theorem dX11_build_27 : decode cX11_build 27 = .ok (.ireturn, 1) := by decide +kernel
theorem dX11_build_28 : decode cX11_build 28 = .ok (.aload_n 0, 1) := by decide +kernel
theorem dX11_build_29 : decode cX11_build 29 = .ok (.getfield 10, 3) := by decide +kernel
theorem dX11_build_32 : decode cX11_build 32 = .ok (.getfield 147, 3) := by decide +kernel
theorem dX11_build_35 : decode cX11_build 35 = .ok (.iload_n 1, 1) := by decide +kernel
theorem dX11_build_36 : decode cX11_build 36 = .ok (.aaload, 1) := by decide +kernel
theorem dX11_build_37 : decode cX11_build 37 = .ok (.astore_n 3, 1) := by decide +kernel
theorem dX11_build_38 : decode cX11_build 38 = .ok (.aload_n 3, 1) := by decide +kernel
theorem dX11_build_39 : decode cX11_build 39 = .ok (.getfield 151, 3) := by decide +kernel
theorem dX11_build_42 : decode cX11_build 42 = .ok (.ifCond .eq 6, 3) := by decide +kernel
theorem dX11_build_45 : decode cX11_build 45 = .ok (.bipush (-5), 2) := by decide +kernel
theorem dX11_build_47 : decode cX11_build 47 = .ok (.ireturn, 1) := by decide +kernel
theorem dX11_build_48 : decode cX11_build 48 = .ok (.aload_n 0, 1) := by decide +kernel
theorem dX11_build_49 : decode cX11_build 49 = .ok (.getfield 30, 3) := by decide +kernel
theorem dX11_build_52 : decode cX11_build 52 = .ok (.iload_n 2, 1) := by decide +kernel
theorem dX11_build_53 : decode cX11_build 53 = .ok (.aload_n 0, 1) := by decide +kernel
theorem dX11_build_54 : decode cX11_build 54 = .ok (.getfield 47, 3) := by decide +kernel
theorem dX11_build_57 : decode cX11_build 57 = .ok (.invokevirtual 156, 3) := by decide +kernel
theorem dX11_build_60 : decode cX11_build 60 = .ok (.ifCond .ne 14, 3) := by decide +kernel
theorem dX11_build_63 : decode cX11_build 63 = .ok (.bipush (-30), 2) := by decide +kernel
theorem dX11_build_65 : decode cX11_build 65 = .ok (.aload_n 0, 1) := by decide +kernel
theorem dX11_build_66 : decode cX11_build 66 = .ok (.getfield 30, 3) := by decide +kernel
theorem dX11_build_69 : decode cX11_build 69 = .ok (.getfield 160, 3) := by decide +kernel
theorem dX11_build_72 : decode cX11_build 72 = .ok (.isub, 1) := by decide +kernel
theorem dX11_build_73 : decode cX11_build 73 = .ok (.ireturn, 1) := by decide +kernel
theorem dX11_build_74 : decode cX11_build 74 = .ok (.aload_n 0, 1) := by decide +kernel
theorem dX11_build_75 : decode cX11_build 75 = .ok (.invokevirtual 72, 3) := by decide +kernel
theorem dX11_build_78 : decode cX11_build 78 = .ok (.aload_n 3, 1) := by decide +kernel
theorem dX11_build_79 : decode cX11_build 79 = .ok (.aload_n 0, 1) := by decide +kernel
theorem dX11_build_80 : decode cX11_build 80 = .ok (.getfield 47, 3) := by decide +kernel
theorem dX11_build_83 : decode cX11_build 83 = .ok (.aload_n 0, 1) := by decide +kernel
theorem dX11_build_84 : decode cX11_build 84 = .ok (.getfield 10, 3) := by decide +kernel
theorem dX11_build_87 : decode cX11_build 87 = .ok (.getfield 75, 3) := by decide +kernel
theorem dX11_build_90 : decode cX11_build 90 = .ok (.invokevirtual 163, 3) := by decide +kernel
theorem dX11_build_93 : decode cX11_build 93 = .ok (.aload_n 3, 1) := by decide +kernel
theorem dX11_build_94 : decode cX11_build 94 = .ok (.getfield 166, 3) := by decide +kernel
theorem dX11_build_97 : decode cX11_build 97 = .ok (.ireturn, 1) := by decide +kernel
theorem dX11_fault_0 : decode cX11_fault 0 = .ok (.iload_n 1, 1) := by decide +kernel
theorem dX11_fault_1 : decode cX11_fault 1 = .ok (.ifCond .ne 11, 3) := by decide +kernel
theorem dX11_fault_4 : decode cX11_fault 4 = .ok (.aload_n 0, 1) := by decide +kernel
theorem dX11_fault_5 : decode cX11_fault 5 = .ok (.getfield 30, 3) := by decide +kernel
theorem dX11_fault_8 : decode cX11_fault 8 = .ok (.getfield 160, 3) := by decide +kernel
theorem dX11_fault_11 : decode cX11_fault 11 = .ok (.ireturn, 1) := by decide +kernel
theorem dX11_fault_12 : decode cX11_fault 12 = .ok (.iload_n 1, 1) := by decide +kernel
theorem dX11_fault_13 : decode cX11_fault 13 = .ok (.iconst 1, 1) := by decide +kernel
theorem dX11_fault_14 : decode cX11_fault 14 = .ok (.if_icmp .ne 13, 3) := by decide +kernel
theorem dX11_fault_17 : decode cX11_fault 17 = .ok (.aload_n 0, 1) := by decide +kernel
theorem dX11_fault_18 : decode cX11_fault 18 = .ok (.getfield 30, 3) := by decide +kernel
theorem dX11_fault_21 : decode cX11_fault 21 = .ok (.getfield 167, 3) := by decide +kernel
theorem dX11_fault_24 : decode cX11_fault 24 = .ok (.goto 4, 3) := by decide +kernel
theorem dX11_fault_27 : decode cX11_fault 27 = .ok (.iconst (-1), 1) := by decide +kernel
theorem dX11_fault_28 : decode cX11_fault 28 = .ok (.ireturn, 1) := by decide +kernel
theorem dX11_work_0 : decode cX11_work 0 = .ok (.iload_n 1, 1) := by decide +kernel
theorem dX11_work_1 : decode cX11_work 1 = .ok (.invokestatic 144, 3) := by decide +kernel
theorem dX11_work_4 : decode cX11_work 4 = .ok (.ifCond .ne 6, 3) := by decide +kernel
theorem dX11_work_7 : decode cX11_work 7 = .ok (.bipush (-2), 2) := by decide +kernel
theorem dX11_work_9 : decode cX11_work 9 = .ok (.ireturn, 1) := by decide +kernel
theorem dX11_work_10 : decode cX11_work 10 = .ok (.iload_n 2, 1) := by decide +kernel
theorem dX11_work_11 : decode cX11_work 11 = .ok (.iconst 1, 1) := by decide +kernel
theorem dX11_work_12 : decode cX11_work 12 = .ok (.if_icmp .lt 10, 3) := by decide +kernel
theorem dX11_work_15 : decode cX11_work 15 = .ok (.iload_n 2, 1) := by decide +kernel
theorem dX11_work_16 : decode cX11_work 16 = .ok (.sipush 200, 3) := by decide +kernel
theorem dX11_work_19 : decode cX11_work 19 = .ok (.if_icmp .le 6, 3) := by decide +kernel
theorem dX11_work_22 : decode cX11_work 22 = .ok (.bipush (-3), 2) := by decide +kernel
theorem dX11_work_24 : decode cX11_work 24 = .ok (.ireturn, 1) := by decide +kernel
theorem dX11_work_25 : decode cX11_work 25 = .ok (.aload_n 0, 1) := by decide +kernel
theorem dX11_work_26 : decode cX11_work 26 = .ok (.getfield 10, 3) := by decide +kernel
theorem dX11_work_29 : decode cX11_work 29 = .ok (.getfield 147, 3) := by decide +kernel
theorem dX11_work_32 : decode cX11_work 32 = .ok (.iload_n 1, 1) := by decide +kernel
theorem dX11_work_33 : decode cX11_work 33 = .ok (.aaload, 1) := by decide +kernel
theorem dX11_work_34 : decode cX11_work 34 = .ok (.astore_n 3, 1) := by decide +kernel
theorem dX11_work_35 : decode cX11_work 35 = .ok (.aload_n 3, 1) := by decide +kernel
theorem dX11_work_36 : decode cX11_work 36 = .ok (.invokevirtual 170, 3) := by decide +kernel
theorem dX11_work_39 : decode cX11_work 39 = .ok (.ifCond .ne 6, 3) := by decide +kernel
theorem dX11_work_42 : decode cX11_work 42 = .ok (.bipush (-5), 2) := by decide +kernel
theorem dX11_work_44 : decode cX11_work 44 = .ok (.ireturn, 1) := by decide +kernel
theorem dX11_work_45 : decode cX11_work 45 = .ok (.aload_n 0, 1) := by decide +kernel
theorem dX11_work_46 : decode cX11_work 46 = .ok (.invokevirtual 72, 3) := by decide +kernel
theorem dX11_work_49 : decode cX11_work 49 = .ok (.iconst 0, 1) := by decide +kernel
theorem dX11_work_50 : decode cX11_work 50 = .ok (.istore 4, 2) := by decide +kernel
theorem dX11_work_52 : decode cX11_work 52 = .ok (.iload 4, 2) := by decide +kernel
theorem dX11_work_54 : decode cX11_work 54 = .ok (.iload_n 2, 1) := by decide +kernel
theorem dX11_work_55 : decode cX11_work 55 = .ok (.if_icmp .ge 41, 3) := by decide +kernel
theorem dX11_work_58 : decode cX11_work 58 = .ok (.aload_n 3, 1) := by decide +kernel
theorem dX11_work_59 : decode cX11_work 59 = .ok (.invokevirtual 170, 3) := by decide +kernel
theorem dX11_work_62 : decode cX11_work 62 = .ok (.ifCond .eq 34, 3) := by decide +kernel
theorem dX11_work_65 : decode cX11_work 65 = .ok (.aload_n 3, 1) := by decide +kernel
theorem dX11_work_66 : decode cX11_work 66 = .ok (.aload_n 0, 1) := by decide +kernel
theorem dX11_work_67 : decode cX11_work 67 = .ok (.getfield 10, 3) := by decide +kernel
theorem dX11_work_70 : decode cX11_work 70 = .ok (.getfield 174, 3) := by decide +kernel
theorem dX11_work_73 : decode cX11_work 73 = .ok (.aload_n 0, 1) := by decide +kernel
theorem dX11_work_74 : decode cX11_work 74 = .ok (.getfield 10, 3) := by decide +kernel
theorem dX11_work_77 : decode cX11_work 77 = .ok (.getfield 178, 3) := by decide +kernel
theorem dX11_work_80 : decode cX11_work 80 = .ok (.aload_n 0, 1) := by decide +kernel
theorem dX11_work_81 : decode cX11_work 81 = .ok (.getfield 10, 3) := by decide +kernel
theorem dX11_work_84 : decode cX11_work 84 = .ok (.getfield 181, 3) := by decide +kernel
theorem dX11_work_87 : decode cX11_work 87 = .ok (.invokevirtual 184, 3) := by decide +kernel
theorem dX11_work_90 : decode cX11_work 90 = .ok (.iinc 4 1, 3) := by decide +kernel
theorem dX11_work_93 : decode cX11_work 93 = .ok (.goto (-41), 3) := by decide +kernel
theorem dX11_work_96 : decode cX11_work 96 = .ok (.aload_n 3, 1) := by decide +kernel
theorem dX11_work_97 : decode cX11_work 97 = .ok (.getfield 151, 3) := by decide +kernel
theorem dX11_work_100 : decode cX11_work 100 = .ok (.ireturn, 1) := by decide +kernel
theorem dX11_takeUp_0 : decode cX11_takeUp 0 = .ok (.iload_n 1, 1) := by decide +kernel
theorem dX11_takeUp_1 : decode cX11_takeUp 1 = .ok (.invokestatic 144, 3) := by decide +kernel
theorem dX11_takeUp_4 : decode cX11_takeUp 4 = .ok (.ifCond .ne 6, 3) := by decide +kernel
theorem dX11_takeUp_7 : decode cX11_takeUp 7 = .ok (.bipush (-2), 2) := by decide +kernel
theorem dX11_takeUp_9 : decode cX11_takeUp 9 = .ok (.ireturn, 1) := by decide +kernel
theorem dX11_takeUp_10 : decode cX11_takeUp 10 = .ok (.aload_n 0, 1) := by decide +kernel
theorem dX11_takeUp_11 : decode cX11_takeUp 11 = .ok (.getfield 10, 3) := by decide +kernel
theorem dX11_takeUp_14 : decode cX11_takeUp 14 = .ok (.getfield 147, 3) := by decide +kernel
theorem dX11_takeUp_17 : decode cX11_takeUp 17 = .ok (.iload_n 1, 1) := by decide +kernel
theorem dX11_takeUp_18 : decode cX11_takeUp 18 = .ok (.aaload, 1) := by decide +kernel
theorem dX11_takeUp_19 : decode cX11_takeUp 19 = .ok (.astore_n 2, 1) := by decide +kernel
theorem dX11_takeUp_20 : decode cX11_takeUp 20 = .ok (.aload_n 2, 1) := by decide +kernel
theorem dX11_takeUp_21 : decode cX11_takeUp 21 = .ok (.getfield 151, 3) := by decide +kernel
theorem dX11_takeUp_24 : decode cX11_takeUp 24 = .ok (.iconst 5, 1) := by decide +kernel
theorem dX11_takeUp_25 : decode cX11_takeUp 25 = .ok (.if_icmp .eq 6, 3) := by decide +kernel
theorem dX11_takeUp_28 : decode cX11_takeUp 28 = .ok (.bipush (-5), 2) := by decide +kernel
theorem dX11_takeUp_30 : decode cX11_takeUp 30 = .ok (.ireturn, 1) := by decide +kernel
theorem dX11_takeUp_31 : decode cX11_takeUp 31 = .ok (.aload_n 0, 1) := by decide +kernel
theorem dX11_takeUp_32 : decode cX11_takeUp 32 = .ok (.invokevirtual 72, 3) := by decide +kernel
theorem dX11_takeUp_35 : decode cX11_takeUp 35 = .ok (.aload_n 2, 1) := by decide +kernel
theorem dX11_takeUp_36 : decode cX11_takeUp 36 = .ok (.invokevirtual 188, 3) := by decide +kernel
theorem dX11_takeUp_39 : decode cX11_takeUp 39 = .ok (.aload_n 2, 1) := by decide +kernel
theorem dX11_takeUp_40 : decode cX11_takeUp 40 = .ok (.getfield 191, 3) := by decide +kernel
theorem dX11_takeUp_43 : decode cX11_takeUp 43 = .ok (.ireturn, 1) := by decide +kernel
theorem dX11_giveUp_0 : decode cX11_giveUp 0 = .ok (.iload_n 1, 1) := by decide +kernel
theorem dX11_giveUp_1 : decode cX11_giveUp 1 = .ok (.invokestatic 144, 3) := by decide +kernel
theorem dX11_giveUp_4 : decode cX11_giveUp 4 = .ok (.ifCond .ne 6, 3) := by decide +kernel
theorem dX11_giveUp_7 : decode cX11_giveUp 7 = .ok (.bipush (-2), 2) := by decide +kernel
theorem dX11_giveUp_9 : decode cX11_giveUp 9 = .ok (.ireturn, 1) := by decide +kernel
theorem dX11_giveUp_10 : decode cX11_giveUp 10 = .ok (.aload_n 0, 1) := by decide +kernel
theorem dX11_giveUp_11 : decode cX11_giveUp 11 = .ok (.getfield 10, 3) := by decide +kernel
theorem dX11_giveUp_14 : decode cX11_giveUp 14 = .ok (.getfield 147, 3) := by decide +kernel
theorem dX11_giveUp_17 : decode cX11_giveUp 17 = .ok (.iload_n 1, 1) := by decide +kernel
theorem dX11_giveUp_18 : decode cX11_giveUp 18 = .ok (.aaload, 1) := by decide +kernel
theorem dX11_giveUp_19 : decode cX11_giveUp 19 = .ok (.astore_n 2, 1) := by decide +kernel
theorem dX11_giveUp_20 : decode cX11_giveUp 20 = .ok (.aload_n 2, 1) := by decide +kernel
theorem dX11_giveUp_21 : decode cX11_giveUp 21 = .ok (.getfield 151, 3) := by decide +kernel
theorem dX11_giveUp_24 : decode cX11_giveUp 24 = .ok (.ifCond .ne 6, 3) := by decide +kernel
theorem dX11_giveUp_27 : decode cX11_giveUp 27 = .ok (.bipush (-5), 2) := by decide +kernel
theorem dX11_giveUp_29 : decode cX11_giveUp 29 = .ok (.ireturn, 1) := by decide +kernel
theorem dX11_giveUp_30 : decode cX11_giveUp 30 = .ok (.aload_n 0, 1) := by decide +kernel
theorem dX11_giveUp_31 : decode cX11_giveUp 31 = .ok (.invokevirtual 72, 3) := by decide +kernel
theorem dX11_giveUp_34 : decode cX11_giveUp 34 = .ok (.aload_n 2, 1) := by decide +kernel
theorem dX11_giveUp_35 : decode cX11_giveUp 35 = .ok (.getfield 151, 3) := by decide +kernel
theorem dX11_giveUp_38 : decode cX11_giveUp 38 = .ok (.istore_n 3, 1) := by decide +kernel
theorem dX11_giveUp_39 : decode cX11_giveUp 39 = .ok (.aload_n 2, 1) := by decide +kernel
theorem dX11_giveUp_40 : decode cX11_giveUp 40 = .ok (.iconst 1, 1) := by decide +kernel
theorem dX11_giveUp_41 : decode cX11_giveUp 41 = .ok (.invokevirtual 194, 3) := by decide +kernel
theorem dX11_giveUp_44 : decode cX11_giveUp 44 = .ok (.iload_n 3, 1) := by decide +kernel
theorem dX11_giveUp_45 : decode cX11_giveUp 45 = .ok (.ireturn, 1) := by decide +kernel
theorem dX11_terms_0 : decode cX11_terms 0 = .ok (.iload_n 1, 1) := by decide +kernel
theorem dX11_terms_1 : decode cX11_terms 1 = .ok (.ifCond .eq 11, 3) := by decide +kernel
theorem dX11_terms_4 : decode cX11_terms 4 = .ok (.iload_n 1, 1) := by decide +kernel
theorem dX11_terms_5 : decode cX11_terms 5 = .ok (.iconst 1, 1) := by decide +kernel
theorem dX11_terms_6 : decode cX11_terms 6 = .ok (.if_icmp .eq 6, 3) := by decide +kernel
theorem dX11_terms_9 : decode cX11_terms 9 = .ok (.bipush (-2), 2) := by decide +kernel
theorem dX11_terms_11 : decode cX11_terms 11 = .ok (.ireturn, 1) := by decide +kernel
theorem dX11_terms_12 : decode cX11_terms 12 = .ok (.iload_n 1, 1) := by decide +kernel
theorem dX11_terms_13 : decode cX11_terms 13 = .ok (.ifCond .ne 7, 3) := by decide +kernel
theorem dX11_terms_16 : decode cX11_terms 16 = .ok (.iconst 0, 1) := by decide +kernel
theorem dX11_terms_17 : decode cX11_terms 17 = .ok (.goto 4, 3) := by decide +kernel
theorem dX11_terms_20 : decode cX11_terms 20 = .ok (.iconst 1, 1) := by decide +kernel
theorem dX11_terms_21 : decode cX11_terms 21 = .ok (.istore_n 3, 1) := by decide +kernel
theorem dX11_terms_22 : decode cX11_terms 22 = .ok (.iload_n 1, 1) := by decide +kernel
theorem dX11_terms_23 : decode cX11_terms 23 = .ok (.ifCond .ne 8, 3) := by decide +kernel
theorem dX11_terms_26 : decode cX11_terms 26 = .ok (.bipush 20, 2) := by decide +kernel
theorem dX11_terms_28 : decode cX11_terms 28 = .ok (.goto 5, 3) := by decide +kernel
theorem dX11_terms_31 : decode cX11_terms 31 = .ok (.bipush 9, 2) := by decide +kernel
theorem dX11_terms_33 : decode cX11_terms 33 = .ok (.istore 4, 2) := by decide +kernel
theorem dX11_terms_35 : decode cX11_terms 35 = .ok (.iload_n 2, 1) := by decide +kernel
theorem dX11_terms_36 : decode cX11_terms 36 = .ok (.iload_n 3, 1) := by decide +kernel
theorem dX11_terms_37 : decode cX11_terms 37 = .ok (.if_icmp .lt 9, 3) := by decide +kernel
theorem dX11_terms_40 : decode cX11_terms 40 = .ok (.iload_n 2, 1) := by decide +kernel
theorem dX11_terms_41 : decode cX11_terms 41 = .ok (.iload 4, 2) := by decide +kernel
theorem dX11_terms_43 : decode cX11_terms 43 = .ok (.if_icmp .le 6, 3) := by decide +kernel
theorem dX11_terms_46 : decode cX11_terms 46 = .ok (.bipush (-3), 2) := by decide +kernel
theorem dX11_terms_48 : decode cX11_terms 48 = .ok (.ireturn, 1) := by decide +kernel
theorem dX11_terms_49 : decode cX11_terms 49 = .ok (.aload_n 0, 1) := by decide +kernel
theorem dX11_terms_50 : decode cX11_terms 50 = .ok (.invokevirtual 72, 3) := by decide +kernel
theorem dX11_terms_53 : decode cX11_terms 53 = .ok (.iload_n 1, 1) := by decide +kernel
theorem dX11_terms_54 : decode cX11_terms 54 = .ok (.ifCond .ne 13, 3) := by decide +kernel
theorem dX11_terms_57 : decode cX11_terms 57 = .ok (.aload_n 0, 1) := by decide +kernel
theorem dX11_terms_58 : decode cX11_terms 58 = .ok (.getfield 10, 3) := by decide +kernel
theorem dX11_terms_61 : decode cX11_terms 61 = .ok (.getfield 178, 3) := by decide +kernel
theorem dX11_terms_64 : decode cX11_terms 64 = .ok (.goto 10, 3) := by decide +kernel
theorem dX11_terms_67 : decode cX11_terms 67 = .ok (.aload_n 0, 1) := by decide +kernel
theorem dX11_terms_68 : decode cX11_terms 68 = .ok (.getfield 10, 3) := by decide +kernel
theorem dX11_terms_71 : decode cX11_terms 71 = .ok (.getfield 181, 3) := by decide +kernel
theorem dX11_terms_74 : decode cX11_terms 74 = .ok (.istore 5, 2) := by decide +kernel
theorem dX11_terms_76 : decode cX11_terms 76 = .ok (.iload_n 1, 1) := by decide +kernel
theorem dX11_terms_77 : decode cX11_terms 77 = .ok (.ifCond .ne 14, 3) := by decide +kernel
theorem dX11_terms_80 : decode cX11_terms 80 = .ok (.aload_n 0, 1) := by decide +kernel
theorem dX11_terms_81 : decode cX11_terms 81 = .ok (.getfield 10, 3) := by decide +kernel
theorem dX11_terms_84 : decode cX11_terms 84 = .ok (.iload_n 2, 1) := by decide +kernel
theorem dX11_terms_85 : decode cX11_terms 85 = .ok (.putfield 178, 3) := by decide +kernel
theorem dX11_terms_88 : decode cX11_terms 88 = .ok (.goto 11, 3) := by decide +kernel
theorem dX11_terms_91 : decode cX11_terms 91 = .ok (.aload_n 0, 1) := by decide +kernel
theorem dX11_terms_92 : decode cX11_terms 92 = .ok (.getfield 10, 3) := by decide +kernel
theorem dX11_terms_95 : decode cX11_terms 95 = .ok (.iload_n 2, 1) := by decide +kernel
theorem dX11_terms_96 : decode cX11_terms 96 = .ok (.putfield 181, 3) := by decide +kernel
theorem dX11_terms_99 : decode cX11_terms 99 = .ok (.iload 5, 2) := by decide +kernel
theorem dX11_terms_101 : decode cX11_terms 101 = .ok (.ireturn, 1) := by decide +kernel
theorem dX11_index_0 : decode cX11_index 0 = .ok (.iload_n 1, 1) := by decide +kernel
theorem dX11_index_1 : decode cX11_index 1 = .ok (.invokestatic 144, 3) := by decide +kernel
theorem dX11_index_4 : decode cX11_index 4 = .ok (.ifCond .eq 13, 3) := by decide +kernel
theorem dX11_index_7 : decode cX11_index 7 = .ok (.iload_n 2, 1) := by decide +kernel
theorem dX11_index_8 : decode cX11_index 8 = .ok (.ifCond .lt 9, 3) := by decide +kernel
theorem dX11_index_11 : decode cX11_index 11 = .ok (.iload_n 2, 1) := by decide +kernel
theorem dX11_index_12 : decode cX11_index 12 = .ok (.bipush 15, 2) := by decide +kernel
theorem dX11_index_14 : decode cX11_index 14 = .ok (.if_icmp .le 6, 3) := by decide +kernel
theorem dX11_index_17 : decode cX11_index 17 = .ok (.bipush (-2), 2) := by decide +kernel
theorem dX11_index_19 : decode cX11_index 19 = .ok (.ireturn, 1) := by decide +kernel
theorem dX11_index_20 : decode cX11_index 20 = .ok (.aload_n 0, 1) := by decide +kernel
theorem dX11_index_21 : decode cX11_index 21 = .ok (.getfield 10, 3) := by decide +kernel
theorem dX11_index_24 : decode cX11_index 24 = .ok (.getfield 147, 3) := by decide +kernel
theorem dX11_index_27 : decode cX11_index 27 = .ok (.iload_n 1, 1) := by decide +kernel
theorem dX11_index_28 : decode cX11_index 28 = .ok (.aaload, 1) := by decide +kernel
theorem dX11_index_29 : decode cX11_index 29 = .ok (.astore_n 3, 1) := by decide +kernel
theorem dX11_index_30 : decode cX11_index 30 = .ok (.iload_n 2, 1) := by decide +kernel
theorem dX11_index_31 : decode cX11_index 31 = .ok (.tableswitch 150 0 15 #[77, 82, 90, 107, 115, 123, 128, 150, 150, 150, 150, 150, 150, 150, 150, 145], 77) := by decide +kernel
theorem dX11_index_108 : decode cX11_index 108 = .ok (.aload_n 3, 1) := by decide +kernel
theorem dX11_index_109 : decode cX11_index 109 = .ok (.getfield 151, 3) := by decide +kernel
theorem dX11_index_112 : decode cX11_index 112 = .ok (.ireturn, 1) := by decide +kernel
theorem dX11_index_113 : decode cX11_index 113 = .ok (.aload_n 3, 1) := by decide +kernel
theorem dX11_index_114 : decode cX11_index 114 = .ok (.getfield 197, 3) := by decide +kernel
theorem dX11_index_117 : decode cX11_index 117 = .ok (.getfield 200, 3) := by decide +kernel
theorem dX11_index_120 : decode cX11_index 120 = .ok (.ireturn, 1) := by decide +kernel
theorem dX11_index_121 : decode cX11_index 121 = .ok (.aload_n 3, 1) := by decide +kernel
theorem dX11_index_122 : decode cX11_index 122 = .ok (.getfield 151, 3) := by decide +kernel
theorem dX11_index_125 : decode cX11_index 125 = .ok (.iconst 1, 1) := by decide +kernel
theorem dX11_index_126 : decode cX11_index 126 = .ok (.if_icmp .ne 10, 3) := by decide +kernel
theorem dX11_index_129 : decode cX11_index 129 = .ok (.aload_n 3, 1) := by decide +kernel
theorem dX11_index_130 : decode cX11_index 130 = .ok (.getfield 203, 3) := by decide +kernel
theorem dX11_index_133 : decode cX11_index 133 = .ok (.goto 4, 3) := by decide +kernel
theorem dX11_index_136 : decode cX11_index 136 = .ok (.iconst (-1), 1) := by decide +kernel
theorem dX11_index_137 : decode cX11_index 137 = .ok (.ireturn, 1) := by decide +kernel
theorem dX11_index_138 : decode cX11_index 138 = .ok (.aload_n 3, 1) := by decide +kernel
theorem dX11_index_139 : decode cX11_index 139 = .ok (.getfield 206, 3) := by decide +kernel
theorem dX11_index_142 : decode cX11_index 142 = .ok (.getfield 210, 3) := by decide +kernel
theorem dX11_index_145 : decode cX11_index 145 = .ok (.ireturn, 1) := by decide +kernel
theorem dX11_index_146 : decode cX11_index 146 = .ok (.aload_n 3, 1) := by decide +kernel
theorem dX11_index_147 : decode cX11_index 147 = .ok (.getfield 213, 3) := by decide +kernel
theorem dX11_index_150 : decode cX11_index 150 = .ok (.getfield 210, 3) := by decide +kernel
theorem dX11_index_153 : decode cX11_index 153 = .ok (.ireturn, 1) := by decide +kernel
theorem dX11_index_154 : decode cX11_index 154 = .ok (.aload_n 3, 1) := by decide +kernel
theorem dX11_index_155 : decode cX11_index 155 = .ok (.getfield 191, 3) := by decide +kernel
theorem dX11_index_158 : decode cX11_index 158 = .ok (.ireturn, 1) := by decide +kernel
theorem dX11_index_159 : decode cX11_index 159 = .ok (.aload_n 3, 1) := by decide +kernel
theorem dX11_index_160 : decode cX11_index 160 = .ok (.getfield 151, 3) := by decide +kernel
theorem dX11_index_163 : decode cX11_index 163 = .ok (.iconst 1, 1) := by decide +kernel
theorem dX11_index_164 : decode cX11_index 164 = .ok (.if_icmp .ne 10, 3) := by decide +kernel
theorem dX11_index_167 : decode cX11_index 167 = .ok (.aload_n 3, 1) := by decide +kernel
theorem dX11_index_168 : decode cX11_index 168 = .ok (.getfield 166, 3) := by decide +kernel
theorem dX11_index_171 : decode cX11_index 171 = .ok (.goto 4, 3) := by decide +kernel
theorem dX11_index_174 : decode cX11_index 174 = .ok (.iconst (-1), 1) := by decide +kernel
theorem dX11_index_175 : decode cX11_index 175 = .ok (.ireturn, 1) := by decide +kernel
theorem dX11_index_176 : decode cX11_index 176 = .ok (.aload_n 3, 1) := by decide +kernel
theorem dX11_index_177 : decode cX11_index 177 = .ok (.getfield 216, 3) := by decide +kernel
theorem dX11_index_180 : decode cX11_index 180 = .ok (.ireturn, 1) := by decide +kernel
theorem dX11_index_181 : decode cX11_index 181 = .ok (.aload_n 3, 1) := by decide +kernel
theorem dX11_index_182 : decode cX11_index 182 = .ok (.getfield 219, 3) := by decide +kernel
theorem dX11_index_185 : decode cX11_index 185 = .ok (.iload_n 2, 1) := by decide +kernel
theorem dX11_index_186 : decode cX11_index 186 = .ok (.invokevirtual 222, 3) := by decide +kernel
theorem dX11_index_189 : decode cX11_index 189 = .ok (.ireturn, 1) := by decide +kernel
theorem dX11_entry_0 : decode cX11_entry 0 = .ok (.iload_n 1, 1) := by decide +kernel
theorem dX11_entry_1 : decode cX11_entry 1 = .ok (.invokestatic 144, 3) := by decide +kernel
theorem dX11_entry_4 : decode cX11_entry 4 = .ok (.ifCond .eq 12, 3) := by decide +kernel
theorem dX11_entry_7 : decode cX11_entry 7 = .ok (.iload_n 3, 1) := by decide +kernel
theorem dX11_entry_8 : decode cX11_entry 8 = .ok (.ifCond .lt 8, 3) := by decide +kernel
theorem dX11_entry_11 : decode cX11_entry 11 = .ok (.iload_n 3, 1) := by decide +kernel
theorem dX11_entry_12 : decode cX11_entry 12 = .ok (.iconst 3, 1) := by decide +kernel
theorem dX11_entry_13 : decode cX11_entry 13 = .ok (.if_icmp .le 6, 3) := by decide +kernel
theorem dX11_entry_16 : decode cX11_entry 16 = .ok (.bipush (-2), 2) := by decide +kernel
theorem dX11_entry_18 : decode cX11_entry 18 = .ok (.ireturn, 1) := by decide +kernel
theorem dX11_entry_19 : decode cX11_entry 19 = .ok (.iload_n 2, 1) := by decide +kernel
theorem dX11_entry_20 : decode cX11_entry 20 = .ok (.ifCond .ge 6, 3) := by decide +kernel
theorem dX11_entry_23 : decode cX11_entry 23 = .ok (.bipush (-3), 2) := by decide +kernel
theorem dX11_entry_25 : decode cX11_entry 25 = .ok (.ireturn, 1) := by decide +kernel
theorem dX11_entry_26 : decode cX11_entry 26 = .ok (.aload_n 0, 1) := by decide +kernel
theorem dX11_entry_27 : decode cX11_entry 27 = .ok (.getfield 10, 3) := by decide +kernel
theorem dX11_entry_30 : decode cX11_entry 30 = .ok (.getfield 147, 3) := by decide +kernel
theorem dX11_entry_33 : decode cX11_entry 33 = .ok (.iload_n 1, 1) := by decide +kernel
theorem dX11_entry_34 : decode cX11_entry 34 = .ok (.aaload, 1) := by decide +kernel
theorem dX11_entry_35 : decode cX11_entry 35 = .ok (.astore 4, 2) := by decide +kernel
theorem dX11_entry_37 : decode cX11_entry 37 = .ok (.iload_n 2, 1) := by decide +kernel
theorem dX11_entry_38 : decode cX11_entry 38 = .ok (.aload 4, 2) := by decide +kernel
theorem dX11_entry_40 : decode cX11_entry 40 = .ok (.getfield 197, 3) := by decide +kernel
theorem dX11_entry_43 : decode cX11_entry 43 = .ok (.getfield 200, 3) := by decide +kernel
theorem dX11_entry_46 : decode cX11_entry 46 = .ok (.if_icmp .lt 5, 3) := by decide +kernel
theorem dX11_entry_49 : decode cX11_entry 49 = .ok (.iconst (-1), 1) := by decide +kernel
theorem dX11_entry_50 : decode cX11_entry 50 = .ok (.ireturn, 1) := by decide +kernel
theorem dX11_entry_51 : decode cX11_entry 51 = .ok (.aload 4, 2) := by decide +kernel
theorem dX11_entry_53 : decode cX11_entry 53 = .ok (.getfield 219, 3) := by decide +kernel
theorem dX11_entry_56 : decode cX11_entry 56 = .ok (.aload 4, 2) := by decide +kernel
theorem dX11_entry_58 : decode cX11_entry 58 = .ok (.getfield 197, 3) := by decide +kernel
theorem dX11_entry_61 : decode cX11_entry 61 = .ok (.getfield 226, 3) := by decide +kernel
theorem dX11_entry_64 : decode cX11_entry 64 = .ok (.iload_n 2, 1) := by decide +kernel
theorem dX11_entry_65 : decode cX11_entry 65 = .ok (.iaload, 1) := by decide +kernel
theorem dX11_entry_66 : decode cX11_entry 66 = .ok (.iload_n 3, 1) := by decide +kernel
theorem dX11_entry_67 : decode cX11_entry 67 = .ok (.invokevirtual 230, 3) := by decide +kernel
theorem dX11_entry_70 : decode cX11_entry 70 = .ok (.ireturn, 1) := by decide +kernel
theorem dX11_logged_0 : decode cX11_logged 0 = .ok (.iload_n 1, 1) := by decide +kernel
theorem dX11_logged_1 : decode cX11_logged 1 = .ok (.invokestatic 144, 3) := by decide +kernel
theorem dX11_logged_4 : decode cX11_logged 4 = .ok (.ifCond .eq 23, 3) := by decide +kernel
theorem dX11_logged_7 : decode cX11_logged 7 = .ok (.iload_n 2, 1) := by decide +kernel
theorem dX11_logged_8 : decode cX11_logged 8 = .ok (.ifCond .lt 19, 3) := by decide +kernel
theorem dX11_logged_11 : decode cX11_logged 11 = .ok (.iload_n 2, 1) := by decide +kernel
theorem dX11_logged_12 : decode cX11_logged 12 = .ok (.iconst 1, 1) := by decide +kernel
theorem dX11_logged_13 : decode cX11_logged 13 = .ok (.if_icmp .gt 14, 3) := by decide +kernel
theorem dX11_logged_16 : decode cX11_logged 16 = .ok (.iload 4, 2) := by decide +kernel
theorem dX11_logged_18 : decode cX11_logged 18 = .ok (.ifCond .lt 9, 3) := by decide +kernel
theorem dX11_logged_21 : decode cX11_logged 21 = .ok (.iload 4, 2) := by decide +kernel
theorem dX11_logged_23 : decode cX11_logged 23 = .ok (.iconst 4, 1) := by decide +kernel
theorem dX11_logged_24 : decode cX11_logged 24 = .ok (.if_icmp .le 6, 3) := by decide +kernel
theorem dX11_logged_27 : decode cX11_logged 27 = .ok (.bipush (-2), 2) := by decide +kernel
theorem dX11_logged_29 : decode cX11_logged 29 = .ok (.ireturn, 1) := by decide +kernel
theorem dX11_logged_30 : decode cX11_logged 30 = .ok (.iload_n 3, 1) := by decide +kernel
theorem dX11_logged_31 : decode cX11_logged 31 = .ok (.ifCond .ge 6, 3) := by decide +kernel
theorem dX11_logged_34 : decode cX11_logged 34 = .ok (.bipush (-3), 2) := by decide +kernel
theorem dX11_logged_36 : decode cX11_logged 36 = .ok (.ireturn, 1) := by decide +kernel
theorem dX11_logged_37 : decode cX11_logged 37 = .ok (.aload_n 0, 1) := by decide +kernel
theorem dX11_logged_38 : decode cX11_logged 38 = .ok (.getfield 10, 3) := by decide +kernel
theorem dX11_logged_41 : decode cX11_logged 41 = .ok (.getfield 147, 3) := by decide +kernel
theorem dX11_logged_44 : decode cX11_logged 44 = .ok (.iload_n 1, 1) := by decide +kernel
theorem dX11_logged_45 : decode cX11_logged 45 = .ok (.aaload, 1) := by decide +kernel
theorem dX11_logged_46 : decode cX11_logged 46 = .ok (.astore 5, 2) := by decide +kernel
theorem dX11_logged_48 : decode cX11_logged 48 = .ok (.iload_n 2, 1) := by decide +kernel
theorem dX11_logged_49 : decode cX11_logged 49 = .ok (.ifCond .ne 11, 3) := by decide +kernel
theorem dX11_logged_52 : decode cX11_logged 52 = .ok (.aload 5, 2) := by decide +kernel
theorem dX11_logged_54 : decode cX11_logged 54 = .ok (.getfield 206, 3) := by decide +kernel
theorem dX11_logged_57 : decode cX11_logged 57 = .ok (.goto 8, 3) := by decide +kernel
theorem dX11_logged_60 : decode cX11_logged 60 = .ok (.aload 5, 2) := by decide +kernel
theorem dX11_logged_62 : decode cX11_logged 62 = .ok (.getfield 213, 3) := by decide +kernel
theorem dX11_logged_65 : decode cX11_logged 65 = .ok (.astore 6, 2) := by decide +kernel
theorem dX11_logged_67 : decode cX11_logged 67 = .ok (.iload_n 3, 1) := by decide +kernel
theorem dX11_logged_68 : decode cX11_logged 68 = .ok (.aload 6, 2) := by decide +kernel
theorem dX11_logged_70 : decode cX11_logged 70 = .ok (.getfield 210, 3) := by decide +kernel
theorem dX11_logged_73 : decode cX11_logged 73 = .ok (.if_icmp .lt 5, 3) := by decide +kernel
theorem dX11_logged_76 : decode cX11_logged 76 = .ok (.iconst (-1), 1) := by decide +kernel
theorem dX11_logged_77 : decode cX11_logged 77 = .ok (.ireturn, 1) := by decide +kernel
theorem dX11_logged_78 : decode cX11_logged 78 = .ok (.aload 6, 2) := by decide +kernel
theorem dX11_logged_80 : decode cX11_logged 80 = .ok (.iload_n 3, 1) := by decide +kernel
theorem dX11_logged_81 : decode cX11_logged 81 = .ok (.invokevirtual 233, 3) := by decide +kernel
theorem dX11_logged_84 : decode cX11_logged 84 = .ok (.istore 7, 2) := by decide +kernel
theorem dX11_logged_86 : decode cX11_logged 86 = .ok (.iload 4, 2) := by decide +kernel
theorem dX11_logged_88 : decode cX11_logged 88 = .ok (.ifCond .ne 17, 3) := by decide +kernel
theorem dX11_logged_91 : decode cX11_logged 91 = .ok (.iload 7, 2) := by decide +kernel
theorem dX11_logged_93 : decode cX11_logged 93 = .ok (.invokestatic 236, 3) := by decide +kernel
theorem dX11_logged_96 : decode cX11_logged 96 = .ok (.ifCond .eq 7, 3) := by decide +kernel
theorem dX11_logged_99 : decode cX11_logged 99 = .ok (.iconst 1, 1) := by decide +kernel
theorem dX11_logged_100 : decode cX11_logged 100 = .ok (.goto 4, 3) := by decide +kernel
theorem dX11_logged_103 : decode cX11_logged 103 = .ok (.iconst 0, 1) := by decide +kernel
theorem dX11_logged_104 : decode cX11_logged 104 = .ok (.ireturn, 1) := by decide +kernel
theorem dX11_logged_105 : decode cX11_logged 105 = .ok (.aload 5, 2) := by decide +kernel
theorem dX11_logged_107 : decode cX11_logged 107 = .ok (.getfield 219, 3) := by decide +kernel
theorem dX11_logged_110 : decode cX11_logged 110 = .ok (.iload 7, 2) := by decide +kernel
theorem dX11_logged_112 : decode cX11_logged 112 = .ok (.invokestatic 239, 3) := by decide +kernel
theorem dX11_logged_115 : decode cX11_logged 115 = .ok (.iload 4, 2) := by decide +kernel
theorem dX11_logged_117 : decode cX11_logged 117 = .ok (.iconst 1, 1) := by decide +kernel
theorem dX11_logged_118 : decode cX11_logged 118 = .ok (.isub, 1) := by decide +kernel
theorem dX11_logged_119 : decode cX11_logged 119 = .ok (.invokevirtual 230, 3) := by decide +kernel
theorem dX11_logged_122 : decode cX11_logged 122 = .ok (.ireturn, 1) := by decide +kernel
theorem dX11_ahead_0 : decode cX11_ahead 0 = .ok (.aload_n 0, 1) := by decide +kernel
theorem dX11_ahead_1 : decode cX11_ahead 1 = .ok (.iload_n 1, 1) := by decide +kernel
theorem dX11_ahead_2 : decode cX11_ahead 2 = .ok (.iload_n 2, 1) := by decide +kernel
theorem dX11_ahead_3 : decode cX11_ahead 3 = .ok (.iload_n 3, 1) := by decide +kernel
theorem dX11_ahead_4 : decode cX11_ahead 4 = .ok (.iload 4, 2) := by decide +kernel
theorem dX11_ahead_6 : decode cX11_ahead 6 = .ok (.invokevirtual 242, 3) := by decide +kernel
theorem dX11_ahead_9 : decode cX11_ahead 9 = .ok (.istore 5, 2) := by decide +kernel
theorem dX11_ahead_11 : decode cX11_ahead 11 = .ok (.iload 5, 2) := by decide +kernel
theorem dX11_ahead_13 : decode cX11_ahead 13 = .ok (.ifCond .eq 6, 3) := by decide +kernel
theorem dX11_ahead_16 : decode cX11_ahead 16 = .ok (.iload 5, 2) := by decide +kernel
theorem dX11_ahead_18 : decode cX11_ahead 18 = .ok (.ireturn, 1) := by decide +kernel
theorem dX11_ahead_19 : decode cX11_ahead 19 = .ok (.aload_n 0, 1) := by decide +kernel
theorem dX11_ahead_20 : decode cX11_ahead 20 = .ok (.getfield 10, 3) := by decide +kernel
theorem dX11_ahead_23 : decode cX11_ahead 23 = .ok (.getfield 147, 3) := by decide +kernel
theorem dX11_ahead_26 : decode cX11_ahead 26 = .ok (.iload_n 1, 1) := by decide +kernel
theorem dX11_ahead_27 : decode cX11_ahead 27 = .ok (.aaload, 1) := by decide +kernel
theorem dX11_ahead_28 : decode cX11_ahead 28 = .ok (.astore 6, 2) := by decide +kernel
theorem dX11_ahead_30 : decode cX11_ahead 30 = .ok (.aload 6, 2) := by decide +kernel
theorem dX11_ahead_32 : decode cX11_ahead 32 = .ok (.getfield 219, 3) := by decide +kernel
theorem dX11_ahead_35 : decode cX11_ahead 35 = .ok (.getfield 246, 3) := by decide +kernel
theorem dX11_ahead_38 : decode cX11_ahead 38 = .ok (.iload_n 2, 1) := by decide +kernel
theorem dX11_ahead_39 : decode cX11_ahead 39 = .ok (.iload_n 3, 1) := by decide +kernel
theorem dX11_ahead_40 : decode cX11_ahead 40 = .ok (.iload 4, 2) := by decide +kernel
theorem dX11_ahead_42 : decode cX11_ahead 42 = .ok (.invokestatic 97, 3) := by decide +kernel
theorem dX11_ahead_45 : decode cX11_ahead 45 = .ok (.invokevirtual 250, 3) := by decide +kernel
theorem dX11_ahead_48 : decode cX11_ahead 48 = .ok (.istore 7, 2) := by decide +kernel
theorem dX11_ahead_50 : decode cX11_ahead 50 = .ok (.aload 6, 2) := by decide +kernel
theorem dX11_ahead_52 : decode cX11_ahead 52 = .ok (.getfield 197, 3) := by decide +kernel
theorem dX11_ahead_55 : decode cX11_ahead 55 = .ok (.iload 7, 2) := by decide +kernel
theorem dX11_ahead_57 : decode cX11_ahead 57 = .ok (.invokevirtual 255, 3) := by decide +kernel
theorem dX11_ahead_60 : decode cX11_ahead 60 = .ok (.ireturn, 1) := by decide +kernel
theorem dX11_same_0 : decode cX11_same 0 = .ok (.aload_n 0, 1) := by decide +kernel
theorem dX11_same_1 : decode cX11_same 1 = .ok (.iload_n 1, 1) := by decide +kernel
theorem dX11_same_2 : decode cX11_same 2 = .ok (.iload_n 2, 1) := by decide +kernel
theorem dX11_same_3 : decode cX11_same 3 = .ok (.iload_n 3, 1) := by decide +kernel
theorem dX11_same_4 : decode cX11_same 4 = .ok (.iload 4, 2) := by decide +kernel
theorem dX11_same_6 : decode cX11_same 6 = .ok (.invokevirtual 242, 3) := by decide +kernel
theorem dX11_same_9 : decode cX11_same 9 = .ok (.istore 5, 2) := by decide +kernel
theorem dX11_same_11 : decode cX11_same 11 = .ok (.iload 5, 2) := by decide +kernel
theorem dX11_same_13 : decode cX11_same 13 = .ok (.ifCond .eq 6, 3) := by decide +kernel
theorem dX11_same_16 : decode cX11_same 16 = .ok (.iload 5, 2) := by decide +kernel
theorem dX11_same_18 : decode cX11_same 18 = .ok (.ireturn, 1) := by decide +kernel
theorem dX11_same_19 : decode cX11_same 19 = .ok (.aload_n 0, 1) := by decide +kernel
theorem dX11_same_20 : decode cX11_same 20 = .ok (.getfield 10, 3) := by decide +kernel
theorem dX11_same_23 : decode cX11_same 23 = .ok (.getfield 147, 3) := by decide +kernel
theorem dX11_same_26 : decode cX11_same 26 = .ok (.iload_n 1, 1) := by decide +kernel
theorem dX11_same_27 : decode cX11_same 27 = .ok (.aaload, 1) := by decide +kernel
theorem dX11_same_28 : decode cX11_same 28 = .ok (.astore 6, 2) := by decide +kernel
theorem dX11_same_30 : decode cX11_same 30 = .ok (.aload 6, 2) := by decide +kernel
theorem dX11_same_32 : decode cX11_same 32 = .ok (.getfield 219, 3) := by decide +kernel
theorem dX11_same_35 : decode cX11_same 35 = .ok (.getfield 246, 3) := by decide +kernel
theorem dX11_same_38 : decode cX11_same 38 = .ok (.iload_n 2, 1) := by decide +kernel
theorem dX11_same_39 : decode cX11_same 39 = .ok (.iload_n 3, 1) := by decide +kernel
theorem dX11_same_40 : decode cX11_same 40 = .ok (.iload 4, 2) := by decide +kernel
theorem dX11_same_42 : decode cX11_same 42 = .ok (.invokestatic 97, 3) := by decide +kernel
theorem dX11_same_45 : decode cX11_same 45 = .ok (.invokevirtual 250, 3) := by decide +kernel
theorem dX11_same_48 : decode cX11_same 48 = .ok (.istore 7, 2) := by decide +kernel
theorem dX11_same_50 : decode cX11_same 50 = .ok (.aload 6, 2) := by decide +kernel
theorem dX11_same_52 : decode cX11_same 52 = .ok (.getfield 197, 3) := by decide +kernel
theorem dX11_same_55 : decode cX11_same 55 = .ok (.iload 7, 2) := by decide +kernel
theorem dX11_same_57 : decode cX11_same 57 = .ok (.iconst 1, 1) := by decide +kernel
theorem dX11_same_58 : decode cX11_same 58 = .ok (.iadd, 1) := by decide +kernel
theorem dX11_same_59 : decode cX11_same 59 = .ok (.invokevirtual 255, 3) := by decide +kernel
theorem dX11_same_62 : decode cX11_same 62 = .ok (.aload 6, 2) := by decide +kernel
theorem dX11_same_64 : decode cX11_same 64 = .ok (.getfield 197, 3) := by decide +kernel
theorem dX11_same_67 : decode cX11_same 67 = .ok (.iload 7, 2) := by decide +kernel
theorem dX11_same_69 : decode cX11_same 69 = .ok (.invokevirtual 255, 3) := by decide +kernel
theorem dX11_same_72 : decode cX11_same 72 = .ok (.isub, 1) := by decide +kernel
theorem dX11_same_73 : decode cX11_same 73 = .ok (.ireturn, 1) := by decide +kernel
theorem dX11_reads_0 : decode cX11_reads 0 = .ok (.iload_n 1, 1) := by decide +kernel
theorem dX11_reads_1 : decode cX11_reads 1 = .ok (.invokestatic 258, 3) := by decide +kernel
theorem dX11_reads_4 : decode cX11_reads 4 = .ok (.ifCond .ne 6, 3) := by decide +kernel
theorem dX11_reads_7 : decode cX11_reads 7 = .ok (.bipush (-2), 2) := by decide +kernel
theorem dX11_reads_9 : decode cX11_reads 9 = .ok (.ireturn, 1) := by decide +kernel
theorem dX11_reads_10 : decode cX11_reads 10 = .ok (.iload_n 2, 1) := by decide +kernel
theorem dX11_reads_11 : decode cX11_reads 11 = .ok (.invokestatic 261, 3) := by decide +kernel
theorem dX11_reads_14 : decode cX11_reads 14 = .ok (.ifCond .ne 6, 3) := by decide +kernel
theorem dX11_reads_17 : decode cX11_reads 17 = .ok (.bipush (-3), 2) := by decide +kernel
theorem dX11_reads_19 : decode cX11_reads 19 = .ok (.ireturn, 1) := by decide +kernel
theorem dX11_reads_20 : decode cX11_reads 20 = .ok (.aload_n 0, 1) := by decide +kernel
theorem dX11_reads_21 : decode cX11_reads 21 = .ok (.iload_n 1, 1) := by decide +kernel
theorem dX11_reads_22 : decode cX11_reads 22 = .ok (.invokevirtual 264, 3) := by decide +kernel
theorem dX11_reads_25 : decode cX11_reads 25 = .ok (.istore_n 3, 1) := by decide +kernel
theorem dX11_reads_26 : decode cX11_reads 26 = .ok (.iload_n 3, 1) := by decide +kernel
theorem dX11_reads_27 : decode cX11_reads 27 = .ok (.iconst (-1), 1) := by decide +kernel
theorem dX11_reads_28 : decode cX11_reads 28 = .ok (.if_icmp .ne 14, 3) := by decide +kernel
theorem dX11_reads_31 : decode cX11_reads 31 = .ok (.aload_n 0, 1) := by decide +kernel
theorem dX11_reads_32 : decode cX11_reads 32 = .ok (.getfield 10, 3) := by decide +kernel
theorem dX11_reads_35 : decode cX11_reads 35 = .ok (.getfield 174, 3) := by decide +kernel
theorem dX11_reads_38 : decode cX11_reads 38 = .ok (.invokevirtual 267, 3) := by decide +kernel
theorem dX11_reads_41 : decode cX11_reads 41 = .ok (.ireturn, 1) := by decide +kernel
theorem dX11_reads_42 : decode cX11_reads 42 = .ok (.aload_n 0, 1) := by decide +kernel
theorem dX11_reads_43 : decode cX11_reads 43 = .ok (.getfield 10, 3) := by decide +kernel
theorem dX11_reads_46 : decode cX11_reads 46 = .ok (.getfield 147, 3) := by decide +kernel
theorem dX11_reads_49 : decode cX11_reads 49 = .ok (.iload_n 3, 1) := by decide +kernel
theorem dX11_reads_50 : decode cX11_reads 50 = .ok (.aaload, 1) := by decide +kernel
theorem dX11_reads_51 : decode cX11_reads 51 = .ok (.iload_n 2, 1) := by decide +kernel
theorem dX11_reads_52 : decode cX11_reads 52 = .ok (.invokevirtual 272, 3) := by decide +kernel
theorem dX11_reads_55 : decode cX11_reads 55 = .ok (.iconst 1, 1) := by decide +kernel
theorem dX11_reads_56 : decode cX11_reads 56 = .ok (.iadd, 1) := by decide +kernel
theorem dX11_reads_57 : decode cX11_reads 57 = .ok (.ireturn, 1) := by decide +kernel
theorem dX11_by_0 : decode cX11_by 0 = .ok (.iload_n 1, 1) := by decide +kernel
theorem dX11_by_1 : decode cX11_by 1 = .ok (.invokestatic 258, 3) := by decide +kernel
theorem dX11_by_4 : decode cX11_by 4 = .ok (.ifCond .eq 11, 3) := by decide +kernel
theorem dX11_by_7 : decode cX11_by 7 = .ok (.aload_n 0, 1) := by decide +kernel
theorem dX11_by_8 : decode cX11_by 8 = .ok (.iload_n 1, 1) := by decide +kernel
theorem dX11_by_9 : decode cX11_by 9 = .ok (.invokevirtual 264, 3) := by decide +kernel
theorem dX11_by_12 : decode cX11_by 12 = .ok (.goto 5, 3) := by decide +kernel
theorem dX11_by_15 : decode cX11_by 15 = .ok (.bipush (-2), 2) := by decide +kernel
theorem dX11_by_17 : decode cX11_by 17 = .ok (.ireturn, 1) := by decide +kernel
theorem dX11_query_0 : decode cX11_query 0 = .ok (.iload_n 1, 1) := by decide +kernel
theorem dX11_query_1 : decode cX11_query 1 = .ok (.ifCond .lt 14, 3) := by decide +kernel
theorem dX11_query_4 : decode cX11_query 4 = .ok (.iload_n 1, 1) := by decide +kernel
theorem dX11_query_5 : decode cX11_query 5 = .ok (.aload_n 0, 1) := by decide +kernel
theorem dX11_query_6 : decode cX11_query 6 = .ok (.getfield 30, 3) := by decide +kernel
theorem dX11_query_9 : decode cX11_query 9 = .ok (.getfield 138, 3) := by decide +kernel
theorem dX11_query_12 : decode cX11_query 12 = .ok (.if_icmp .le 6, 3) := by decide +kernel
theorem dX11_query_15 : decode cX11_query 15 = .ok (.bipush (-3), 2) := by decide +kernel
theorem dX11_query_17 : decode cX11_query 17 = .ok (.ireturn, 1) := by decide +kernel
theorem dX11_query_18 : decode cX11_query 18 = .ok (.aload_n 0, 1) := by decide +kernel
theorem dX11_query_19 : decode cX11_query 19 = .ok (.getfield 30, 3) := by decide +kernel
theorem dX11_query_22 : decode cX11_query 22 = .ok (.iload_n 1, 1) := by decide +kernel
theorem dX11_query_23 : decode cX11_query 23 = .ok (.aload_n 0, 1) := by decide +kernel
theorem dX11_query_24 : decode cX11_query 24 = .ok (.getfield 41, 3) := by decide +kernel
theorem dX11_query_27 : decode cX11_query 27 = .ok (.invokevirtual 275, 3) := by decide +kernel
theorem dX11_query_30 : decode cX11_query 30 = .ok (.ifCond .ne 14, 3) := by decide +kernel
theorem dX11_query_33 : decode cX11_query 33 = .ok (.bipush (-30), 2) := by decide +kernel
theorem dX11_query_35 : decode cX11_query 35 = .ok (.aload_n 0, 1) := by decide +kernel
theorem dX11_query_36 : decode cX11_query 36 = .ok (.getfield 30, 3) := by decide +kernel
theorem dX11_query_39 : decode cX11_query 39 = .ok (.getfield 160, 3) := by decide +kernel
theorem dX11_query_42 : decode cX11_query 42 = .ok (.isub, 1) := by decide +kernel
theorem dX11_query_43 : decode cX11_query 43 = .ok (.ireturn, 1) := by decide +kernel
theorem dX11_query_44 : decode cX11_query 44 = .ok (.aload_n 0, 1) := by decide +kernel
theorem dX11_query_45 : decode cX11_query 45 = .ok (.getfield 37, 3) := by decide +kernel
theorem dX11_query_48 : decode cX11_query 48 = .ok (.astore_n 2, 1) := by decide +kernel
theorem dX11_query_49 : decode cX11_query 49 = .ok (.aload_n 0, 1) := by decide +kernel
theorem dX11_query_50 : decode cX11_query 50 = .ok (.aload_n 0, 1) := by decide +kernel
theorem dX11_query_51 : decode cX11_query 51 = .ok (.getfield 41, 3) := by decide +kernel
theorem dX11_query_54 : decode cX11_query 54 = .ok (.putfield 37, 3) := by decide +kernel
theorem dX11_query_57 : decode cX11_query 57 = .ok (.aload_n 0, 1) := by decide +kernel
theorem dX11_query_58 : decode cX11_query 58 = .ok (.aload_n 2, 1) := by decide +kernel
theorem dX11_query_59 : decode cX11_query 59 = .ok (.putfield 41, 3) := by decide +kernel
theorem dX11_query_62 : decode cX11_query 62 = .ok (.aload_n 0, 1) := by decide +kernel
theorem dX11_query_63 : decode cX11_query 63 = .ok (.iconst 1, 1) := by decide +kernel
theorem dX11_query_64 : decode cX11_query 64 = .ok (.putfield 279, 3) := by decide +kernel
theorem dX11_query_67 : decode cX11_query 67 = .ok (.aload_n 0, 1) := by decide +kernel
theorem dX11_query_68 : decode cX11_query 68 = .ok (.getfield 37, 3) := by decide +kernel
theorem dX11_query_71 : decode cX11_query 71 = .ok (.getfield 282, 3) := by decide +kernel
theorem dX11_query_74 : decode cX11_query 74 = .ok (.ireturn, 1) := by decide +kernel
theorem dX11_find_0 : decode cX11_find 0 = .ok (.iload_n 1, 1) := by decide +kernel
theorem dX11_find_1 : decode cX11_find 1 = .ok (.invokestatic 125, 3) := by decide +kernel
theorem dX11_find_4 : decode cX11_find 4 = .ok (.ifCond .ne 6, 3) := by decide +kernel
theorem dX11_find_7 : decode cX11_find 7 = .ok (.bipush (-2), 2) := by decide +kernel
theorem dX11_find_9 : decode cX11_find 9 = .ok (.ireturn, 1) := by decide +kernel
theorem dX11_find_10 : decode cX11_find 10 = .ok (.aload_n 0, 1) := by decide +kernel
theorem dX11_find_11 : decode cX11_find 11 = .ok (.iload_n 1, 1) := by decide +kernel
theorem dX11_find_12 : decode cX11_find 12 = .ok (.invokevirtual 128, 3) := by decide +kernel
theorem dX11_find_15 : decode cX11_find 15 = .ok (.ifCond .eq 10, 3) := by decide +kernel
theorem dX11_find_18 : decode cX11_find 18 = .ok (.aload_n 0, 1) := by decide +kernel
theorem dX11_find_19 : decode cX11_find 19 = .ok (.getfield 279, 3) := by decide +kernel
theorem dX11_find_22 : decode cX11_find 22 = .ok (.ifCond .ne 6, 3) := by decide +kernel
theorem dX11_find_25 : decode cX11_find 25 = .ok (.bipush (-5), 2) := by decide +kernel
theorem dX11_find_27 : decode cX11_find 27 = .ok (.ireturn, 1) := by decide +kernel
theorem dX11_find_28 : decode cX11_find 28 = .ok (.aload_n 0, 1) := by decide +kernel
theorem dX11_find_29 : decode cX11_find 29 = .ok (.iload_n 1, 1) := by decide +kernel
theorem dX11_find_30 : decode cX11_find 30 = .ok (.invokevirtual 283, 3) := by decide +kernel
theorem dX11_find_33 : decode cX11_find 33 = .ok (.aload_n 0, 1) := by decide +kernel
theorem dX11_find_34 : decode cX11_find 34 = .ok (.getfield 54, 3) := by decide +kernel
theorem dX11_find_37 : decode cX11_find 37 = .ok (.getfield 200, 3) := by decide +kernel
theorem dX11_find_40 : decode cX11_find 40 = .ok (.ireturn, 1) := by decide +kernel
theorem dX11_found_0 : decode cX11_found 0 = .ok (.iload_n 1, 1) := by decide +kernel
theorem dX11_found_1 : decode cX11_found 1 = .ok (.invokestatic 125, 3) := by decide +kernel
theorem dX11_found_4 : decode cX11_found 4 = .ok (.ifCond .ne 6, 3) := by decide +kernel
theorem dX11_found_7 : decode cX11_found 7 = .ok (.bipush (-2), 2) := by decide +kernel
theorem dX11_found_9 : decode cX11_found 9 = .ok (.ireturn, 1) := by decide +kernel
theorem dX11_found_10 : decode cX11_found 10 = .ok (.iload_n 2, 1) := by decide +kernel
theorem dX11_found_11 : decode cX11_found 11 = .ok (.ifCond .ge 6, 3) := by decide +kernel
theorem dX11_found_14 : decode cX11_found 14 = .ok (.bipush (-3), 2) := by decide +kernel
theorem dX11_found_16 : decode cX11_found 16 = .ok (.ireturn, 1) := by decide +kernel
theorem dX11_found_17 : decode cX11_found 17 = .ok (.aload_n 0, 1) := by decide +kernel
theorem dX11_found_18 : decode cX11_found 18 = .ok (.iload_n 1, 1) := by decide +kernel
theorem dX11_found_19 : decode cX11_found 19 = .ok (.invokevirtual 128, 3) := by decide +kernel
theorem dX11_found_22 : decode cX11_found 22 = .ok (.ifCond .eq 10, 3) := by decide +kernel
theorem dX11_found_25 : decode cX11_found 25 = .ok (.aload_n 0, 1) := by decide +kernel
theorem dX11_found_26 : decode cX11_found 26 = .ok (.getfield 279, 3) := by decide +kernel
theorem dX11_found_29 : decode cX11_found 29 = .ok (.ifCond .ne 6, 3) := by decide +kernel
theorem dX11_found_32 : decode cX11_found 32 = .ok (.bipush (-5), 2) := by decide +kernel
theorem dX11_found_34 : decode cX11_found 34 = .ok (.ireturn, 1) := by decide +kernel
theorem dX11_found_35 : decode cX11_found 35 = .ok (.aload_n 0, 1) := by decide +kernel
theorem dX11_found_36 : decode cX11_found 36 = .ok (.iload_n 1, 1) := by decide +kernel
theorem dX11_found_37 : decode cX11_found 37 = .ok (.invokevirtual 283, 3) := by decide +kernel
theorem dX11_found_40 : decode cX11_found 40 = .ok (.iload_n 2, 1) := by decide +kernel
theorem dX11_found_41 : decode cX11_found 41 = .ok (.aload_n 0, 1) := by decide +kernel
theorem dX11_found_42 : decode cX11_found 42 = .ok (.getfield 54, 3) := by decide +kernel
theorem dX11_found_45 : decode cX11_found 45 = .ok (.getfield 200, 3) := by decide +kernel
theorem dX11_found_48 : decode cX11_found 48 = .ok (.if_icmp .ge 18, 3) := by decide +kernel
theorem dX11_found_51 : decode cX11_found 51 = .ok (.aload_n 0, 1) := by decide +kernel
theorem dX11_found_52 : decode cX11_found 52 = .ok (.getfield 54, 3) := by decide +kernel
theorem dX11_found_55 : decode cX11_found 55 = .ok (.getfield 226, 3) := by decide +kernel
theorem dX11_found_58 : decode cX11_found 58 = .ok (.iload_n 2, 1) := by decide +kernel
theorem dX11_found_59 : decode cX11_found 59 = .ok (.iaload, 1) := by decide +kernel
theorem dX11_found_60 : decode cX11_found 60 = .ok (.invokestatic 286, 3) := by decide +kernel
theorem dX11_found_63 : decode cX11_found 63 = .ok (.goto 4, 3) := by decide +kernel
theorem dX11_found_66 : decode cX11_found 66 = .ok (.iconst (-1), 1) := by decide +kernel
theorem dX11_found_67 : decode cX11_found 67 = .ok (.ireturn, 1) := by decide +kernel
theorem dX11_plan_0 : decode cX11_plan 0 = .ok (.iload_n 1, 1) := by decide +kernel
theorem dX11_plan_1 : decode cX11_plan 1 = .ok (.ifCond .lt 8, 3) := by decide +kernel
theorem dX11_plan_4 : decode cX11_plan 4 = .ok (.iload_n 1, 1) := by decide +kernel
theorem dX11_plan_5 : decode cX11_plan 5 = .ok (.iconst 4, 1) := by decide +kernel
theorem dX11_plan_6 : decode cX11_plan 6 = .ok (.if_icmp .le 6, 3) := by decide +kernel
theorem dX11_plan_9 : decode cX11_plan 9 = .ok (.bipush (-2), 2) := by decide +kernel
theorem dX11_plan_11 : decode cX11_plan 11 = .ok (.ireturn, 1) := by decide +kernel
theorem dX11_plan_12 : decode cX11_plan 12 = .ok (.aload_n 0, 1) := by decide +kernel
theorem dX11_plan_13 : decode cX11_plan 13 = .ok (.getfield 279, 3) := by decide +kernel
theorem dX11_plan_16 : decode cX11_plan 16 = .ok (.ifCond .ne 6, 3) := by decide +kernel
theorem dX11_plan_19 : decode cX11_plan 19 = .ok (.bipush (-5), 2) := by decide +kernel
theorem dX11_plan_21 : decode cX11_plan 21 = .ok (.ireturn, 1) := by decide +kernel
theorem dX11_plan_22 : decode cX11_plan 22 = .ok (.aload_n 0, 1) := by decide +kernel
theorem dX11_plan_23 : decode cX11_plan 23 = .ok (.invokevirtual 289, 3) := by decide +kernel
theorem dX11_plan_26 : decode cX11_plan 26 = .ok (.istore_n 2, 1) := by decide +kernel
theorem dX11_plan_27 : decode cX11_plan 27 = .ok (.iload_n 1, 1) := by decide +kernel
theorem dX11_plan_28 : decode cX11_plan 28 = .ok (.tableswitch 86 0 3 #[32, 34, 40, 54], 32) := by decide +kernel
theorem dX11_plan_60 : decode cX11_plan 60 = .ok (.iload_n 2, 1) := by decide +kernel
theorem dX11_plan_61 : decode cX11_plan 61 = .ok (.ireturn, 1) := by decide +kernel
theorem dX11_plan_62 : decode cX11_plan 62 = .ok (.aload_n 0, 1) := by decide +kernel
theorem dX11_plan_63 : decode cX11_plan 63 = .ok (.iload_n 2, 1) := by decide +kernel
theorem dX11_plan_64 : decode cX11_plan 64 = .ok (.invokevirtual 292, 3) := by decide +kernel
theorem dX11_plan_67 : decode cX11_plan 67 = .ok (.ireturn, 1) := by decide +kernel
theorem dX11_plan_68 : decode cX11_plan 68 = .ok (.aload_n 0, 1) := by decide +kernel
theorem dX11_plan_69 : decode cX11_plan 69 = .ok (.iload_n 2, 1) := by decide +kernel
theorem dX11_plan_70 : decode cX11_plan 70 = .ok (.invokevirtual 295, 3) := by decide +kernel
theorem dX11_plan_73 : decode cX11_plan 73 = .ok (.ifCond .eq 7, 3) := by decide +kernel
theorem dX11_plan_76 : decode cX11_plan 76 = .ok (.iconst 1, 1) := by decide +kernel
theorem dX11_plan_77 : decode cX11_plan 77 = .ok (.goto 4, 3) := by decide +kernel
theorem dX11_plan_80 : decode cX11_plan 80 = .ok (.iconst 0, 1) := by decide +kernel
theorem dX11_plan_81 : decode cX11_plan 81 = .ok (.ireturn, 1) := by decide +kernel
theorem dX11_plan_82 : decode cX11_plan 82 = .ok (.iload_n 2, 1) := by decide +kernel
theorem dX11_plan_83 : decode cX11_plan 83 = .ok (.iconst (-1), 1) := by decide +kernel
theorem dX11_plan_84 : decode cX11_plan 84 = .ok (.if_icmp .ne 7, 3) := by decide +kernel
theorem dX11_plan_87 : decode cX11_plan 87 = .ok (.iconst 0, 1) := by decide +kernel
theorem dX11_plan_88 : decode cX11_plan 88 = .ok (.goto 25, 3) := by decide +kernel
theorem dX11_plan_91 : decode cX11_plan 91 = .ok (.aload_n 0, 1) := by decide +kernel
theorem dX11_plan_92 : decode cX11_plan 92 = .ok (.getfield 37, 3) := by decide +kernel
theorem dX11_plan_95 : decode cX11_plan 95 = .ok (.aload_n 0, 1) := by decide +kernel
theorem dX11_plan_96 : decode cX11_plan 96 = .ok (.getfield 10, 3) := by decide +kernel
theorem dX11_plan_99 : decode cX11_plan 99 = .ok (.getfield 147, 3) := by decide +kernel
theorem dX11_plan_102 : decode cX11_plan 102 = .ok (.iload_n 2, 1) := by decide +kernel
theorem dX11_plan_103 : decode cX11_plan 103 = .ok (.aaload, 1) := by decide +kernel
theorem dX11_plan_104 : decode cX11_plan 104 = .ok (.getfield 219, 3) := by decide +kernel
theorem dX11_plan_107 : decode cX11_plan 107 = .ok (.getfield 246, 3) := by decide +kernel
theorem dX11_plan_110 : decode cX11_plan 110 = .ok (.invokevirtual 298, 3) := by decide +kernel
theorem dX11_plan_113 : decode cX11_plan 113 = .ok (.ireturn, 1) := by decide +kernel
theorem dX11_plan_114 : decode cX11_plan 114 = .ok (.aload_n 0, 1) := by decide +kernel
theorem dX11_plan_115 : decode cX11_plan 115 = .ok (.invokevirtual 302, 3) := by decide +kernel
theorem dX11_plan_118 : decode cX11_plan 118 = .ok (.ireturn, 1) := by decide +kernel
theorem dX11_far_0 : decode cX11_far 0 = .ok (.iload_n 1, 1) := by decide +kernel
theorem dX11_far_1 : decode cX11_far 1 = .ok (.invokestatic 144, 3) := by decide +kernel
theorem dX11_far_4 : decode cX11_far 4 = .ok (.ifCond .ne 6, 3) := by decide +kernel
theorem dX11_far_7 : decode cX11_far 7 = .ok (.bipush (-2), 2) := by decide +kernel
theorem dX11_far_9 : decode cX11_far 9 = .ok (.ireturn, 1) := by decide +kernel
theorem dX11_far_10 : decode cX11_far 10 = .ok (.aload_n 0, 1) := by decide +kernel
theorem dX11_far_11 : decode cX11_far 11 = .ok (.getfield 10, 3) := by decide +kernel
theorem dX11_far_14 : decode cX11_far 14 = .ok (.getfield 147, 3) := by decide +kernel
theorem dX11_far_17 : decode cX11_far 17 = .ok (.iload_n 1, 1) := by decide +kernel
theorem dX11_far_18 : decode cX11_far 18 = .ok (.aaload, 1) := by decide +kernel
theorem dX11_far_19 : decode cX11_far 19 = .ok (.astore_n 2, 1) := by decide +kernel
theorem dX11_far_20 : decode cX11_far 20 = .ok (.aload_n 2, 1) := by decide +kernel
theorem dX11_far_21 : decode cX11_far 21 = .ok (.getfield 151, 3) := by decide +kernel
theorem dX11_far_24 : decode cX11_far 24 = .ok (.ifCond .ne 6, 3) := by decide +kernel
theorem dX11_far_27 : decode cX11_far 27 = .ok (.bipush (-5), 2) := by decide +kernel
theorem dX11_far_29 : decode cX11_far 29 = .ok (.ireturn, 1) := by decide +kernel
theorem dX11_far_30 : decode cX11_far 30 = .ok (.aload_n 0, 1) := by decide +kernel
theorem dX11_far_31 : decode cX11_far 31 = .ok (.getfield 10, 3) := by decide +kernel
theorem dX11_far_34 : decode cX11_far 34 = .ok (.aload_n 2, 1) := by decide +kernel
theorem dX11_far_35 : decode cX11_far 35 = .ok (.getfield 219, 3) := by decide +kernel
theorem dX11_far_38 : decode cX11_far 38 = .ok (.aconst_null, 1) := by decide +kernel
theorem dX11_far_39 : decode cX11_far 39 = .ok (.aload_n 0, 1) := by decide +kernel
theorem dX11_far_40 : decode cX11_far 40 = .ok (.getfield 54, 3) := by decide +kernel
theorem dX11_far_43 : decode cX11_far 43 = .ok (.invokevirtual 305, 3) := by decide +kernel
theorem dX11_far_46 : decode cX11_far 46 = .ok (.aload_n 2, 1) := by decide +kernel
theorem dX11_far_47 : decode cX11_far 47 = .ok (.getfield 197, 3) := by decide +kernel
theorem dX11_far_50 : decode cX11_far 50 = .ok (.aload_n 0, 1) := by decide +kernel
theorem dX11_far_51 : decode cX11_far 51 = .ok (.getfield 54, 3) := by decide +kernel
theorem dX11_far_54 : decode cX11_far 54 = .ok (.invokevirtual 309, 3) := by decide +kernel
theorem dX11_far_57 : decode cX11_far 57 = .ok (.ireturn, 1) := by decide +kernel
theorem dX11_alike_0 : decode cX11_alike 0 = .ok (.iload_n 1, 1) := by decide +kernel
theorem dX11_alike_1 : decode cX11_alike 1 = .ok (.invokestatic 144, 3) := by decide +kernel
theorem dX11_alike_4 : decode cX11_alike 4 = .ok (.ifCond .ne 6, 3) := by decide +kernel
theorem dX11_alike_7 : decode cX11_alike 7 = .ok (.bipush (-2), 2) := by decide +kernel
theorem dX11_alike_9 : decode cX11_alike 9 = .ok (.ireturn, 1) := by decide +kernel
theorem dX11_alike_10 : decode cX11_alike 10 = .ok (.iload_n 2, 1) := by decide +kernel
theorem dX11_alike_11 : decode cX11_alike 11 = .ok (.iconst (-1), 1) := by decide +kernel
theorem dX11_alike_12 : decode cX11_alike 12 = .ok (.if_icmp .lt 7, 3) := by decide +kernel
theorem dX11_alike_15 : decode cX11_alike 15 = .ok (.iload_n 3, 1) := by decide +kernel
theorem dX11_alike_16 : decode cX11_alike 16 = .ok (.ifCond .ge 6, 3) := by decide +kernel
theorem dX11_alike_19 : decode cX11_alike 19 = .ok (.bipush (-3), 2) := by decide +kernel
theorem dX11_alike_21 : decode cX11_alike 21 = .ok (.ireturn, 1) := by decide +kernel
theorem dX11_alike_22 : decode cX11_alike 22 = .ok (.aload_n 0, 1) := by decide +kernel
theorem dX11_alike_23 : decode cX11_alike 23 = .ok (.getfield 10, 3) := by decide +kernel
theorem dX11_alike_26 : decode cX11_alike 26 = .ok (.getfield 147, 3) := by decide +kernel
theorem dX11_alike_29 : decode cX11_alike 29 = .ok (.iload_n 1, 1) := by decide +kernel
theorem dX11_alike_30 : decode cX11_alike 30 = .ok (.aaload, 1) := by decide +kernel
theorem dX11_alike_31 : decode cX11_alike 31 = .ok (.astore 4, 2) := by decide +kernel
theorem dX11_alike_33 : decode cX11_alike 33 = .ok (.aload 4, 2) := by decide +kernel
theorem dX11_alike_35 : decode cX11_alike 35 = .ok (.getfield 151, 3) := by decide +kernel
theorem dX11_alike_38 : decode cX11_alike 38 = .ok (.ifCond .ne 6, 3) := by decide +kernel
theorem dX11_alike_41 : decode cX11_alike 41 = .ok (.bipush (-5), 2) := by decide +kernel
theorem dX11_alike_43 : decode cX11_alike 43 = .ok (.ireturn, 1) := by decide +kernel
theorem dX11_alike_44 : decode cX11_alike 44 = .ok (.aload_n 0, 1) := by decide +kernel
theorem dX11_alike_45 : decode cX11_alike 45 = .ok (.getfield 10, 3) := by decide +kernel
theorem dX11_alike_48 : decode cX11_alike 48 = .ok (.aload 4, 2) := by decide +kernel
theorem dX11_alike_50 : decode cX11_alike 50 = .ok (.getfield 219, 3) := by decide +kernel
theorem dX11_alike_53 : decode cX11_alike 53 = .ok (.aconst_null, 1) := by decide +kernel
theorem dX11_alike_54 : decode cX11_alike 54 = .ok (.aload_n 0, 1) := by decide +kernel
theorem dX11_alike_55 : decode cX11_alike 55 = .ok (.getfield 54, 3) := by decide +kernel
theorem dX11_alike_58 : decode cX11_alike 58 = .ok (.invokevirtual 305, 3) := by decide +kernel
theorem dX11_alike_61 : decode cX11_alike 61 = .ok (.iload_n 2, 1) := by decide +kernel
theorem dX11_alike_62 : decode cX11_alike 62 = .ok (.iconst (-1), 1) := by decide +kernel
theorem dX11_alike_63 : decode cX11_alike 63 = .ok (.if_icmp .ne 13, 3) := by decide +kernel
theorem dX11_alike_66 : decode cX11_alike 66 = .ok (.aload_n 0, 1) := by decide +kernel
theorem dX11_alike_67 : decode cX11_alike 67 = .ok (.getfield 54, 3) := by decide +kernel
theorem dX11_alike_70 : decode cX11_alike 70 = .ok (.invokevirtual 313, 3) := by decide +kernel
theorem dX11_alike_73 : decode cX11_alike 73 = .ok (.goto 12, 3) := by decide +kernel
theorem dX11_alike_76 : decode cX11_alike 76 = .ok (.aload_n 0, 1) := by decide +kernel
theorem dX11_alike_77 : decode cX11_alike 77 = .ok (.getfield 54, 3) := by decide +kernel
theorem dX11_alike_80 : decode cX11_alike 80 = .ok (.iload_n 2, 1) := by decide +kernel
theorem dX11_alike_81 : decode cX11_alike 81 = .ok (.iload_n 3, 1) := by decide +kernel
theorem dX11_alike_82 : decode cX11_alike 82 = .ok (.invokevirtual 316, 3) := by decide +kernel
theorem dX11_alike_85 : decode cX11_alike 85 = .ok (.ireturn, 1) := by decide +kernel
theorem dX11_units_0 : decode cX11_units 0 = .ok (.iload_n 1, 1) := by decide +kernel
theorem dX11_units_1 : decode cX11_units 1 = .ok (.invokestatic 144, 3) := by decide +kernel
theorem dX11_units_4 : decode cX11_units 4 = .ok (.ifCond .ne 6, 3) := by decide +kernel
theorem dX11_units_7 : decode cX11_units 7 = .ok (.bipush (-2), 2) := by decide +kernel
theorem dX11_units_9 : decode cX11_units 9 = .ok (.ireturn, 1) := by decide +kernel
theorem dX11_units_10 : decode cX11_units 10 = .ok (.iload_n 2, 1) := by decide +kernel
theorem dX11_units_11 : decode cX11_units 11 = .ok (.ifCond .lt 8, 3) := by decide +kernel
theorem dX11_units_14 : decode cX11_units 14 = .ok (.iload_n 2, 1) := by decide +kernel
theorem dX11_units_15 : decode cX11_units 15 = .ok (.iconst 5, 1) := by decide +kernel
theorem dX11_units_16 : decode cX11_units 16 = .ok (.if_icmp .le 6, 3) := by decide +kernel
theorem dX11_units_19 : decode cX11_units 19 = .ok (.bipush (-3), 2) := by decide +kernel
theorem dX11_units_21 : decode cX11_units 21 = .ok (.ireturn, 1) := by decide +kernel
theorem dX11_units_22 : decode cX11_units 22 = .ok (.aload_n 0, 1) := by decide +kernel
theorem dX11_units_23 : decode cX11_units 23 = .ok (.getfield 10, 3) := by decide +kernel
theorem dX11_units_26 : decode cX11_units 26 = .ok (.getfield 147, 3) := by decide +kernel
theorem dX11_units_29 : decode cX11_units 29 = .ok (.iload_n 1, 1) := by decide +kernel
theorem dX11_units_30 : decode cX11_units 30 = .ok (.aaload, 1) := by decide +kernel
theorem dX11_units_31 : decode cX11_units 31 = .ok (.astore_n 3, 1) := by decide +kernel
theorem dX11_units_32 : decode cX11_units 32 = .ok (.aload_n 3, 1) := by decide +kernel
theorem dX11_units_33 : decode cX11_units 33 = .ok (.invokevirtual 170, 3) := by decide +kernel
theorem dX11_units_36 : decode cX11_units 36 = .ok (.ifCond .ne 6, 3) := by decide +kernel
theorem dX11_units_39 : decode cX11_units 39 = .ok (.bipush (-5), 2) := by decide +kernel
theorem dX11_units_41 : decode cX11_units 41 = .ok (.ireturn, 1) := by decide +kernel
theorem dX11_units_42 : decode cX11_units 42 = .ok (.aload_n 3, 1) := by decide +kernel
theorem dX11_units_43 : decode cX11_units 43 = .ok (.iload_n 2, 1) := by decide +kernel
theorem dX11_units_44 : decode cX11_units 44 = .ok (.aload_n 0, 1) := by decide +kernel
theorem dX11_units_45 : decode cX11_units 45 = .ok (.getfield 10, 3) := by decide +kernel
theorem dX11_units_48 : decode cX11_units 48 = .ok (.getfield 178, 3) := by decide +kernel
theorem dX11_units_51 : decode cX11_units 51 = .ok (.aload_n 0, 1) := by decide +kernel
theorem dX11_units_52 : decode cX11_units 52 = .ok (.getfield 10, 3) := by decide +kernel
theorem dX11_units_55 : decode cX11_units 55 = .ok (.getfield 181, 3) := by decide +kernel
theorem dX11_units_58 : decode cX11_units 58 = .ok (.invokevirtual 319, 3) := by decide +kernel
theorem dX11_units_61 : decode cX11_units 61 = .ok (.ireturn, 1) := by decide +kernel
theorem dX11_free_0 : decode cX11_free 0 = .ok (.iconst 0, 1) := by decide +kernel
theorem dX11_free_1 : decode cX11_free 1 = .ok (.istore_n 1, 1) := by decide +kernel
theorem dX11_free_2 : decode cX11_free 2 = .ok (.iload_n 1, 1) := by decide +kernel
theorem dX11_free_3 : decode cX11_free 3 = .ok (.bipush 48, 2) := by decide +kernel
theorem dX11_free_5 : decode cX11_free 5 = .ok (.if_icmp .ge 37, 3) := by decide +kernel
theorem dX11_free_8 : decode cX11_free 8 = .ok (.aload_n 0, 1) := by decide +kernel
theorem dX11_free_9 : decode cX11_free 9 = .ok (.getfield 10, 3) := by decide +kernel
theorem dX11_free_12 : decode cX11_free 12 = .ok (.getfield 174, 3) := by decide +kernel
theorem dX11_free_15 : decode cX11_free 15 = .ok (.iload_n 1, 1) := by decide +kernel
theorem dX11_free_16 : decode cX11_free 16 = .ok (.invokevirtual 322, 3) := by decide +kernel
theorem dX11_free_19 : decode cX11_free 19 = .ok (.iconst (-1), 1) := by decide +kernel
theorem dX11_free_20 : decode cX11_free 20 = .ok (.if_icmp .ne 16, 3) := by decide +kernel
theorem dX11_free_23 : decode cX11_free 23 = .ok (.aload_n 0, 1) := by decide +kernel
theorem dX11_free_24 : decode cX11_free 24 = .ok (.getfield 10, 3) := by decide +kernel
theorem dX11_free_27 : decode cX11_free 27 = .ok (.iload_n 1, 1) := by decide +kernel
theorem dX11_free_28 : decode cX11_free 28 = .ok (.invokevirtual 325, 3) := by decide +kernel
theorem dX11_free_31 : decode cX11_free 31 = .ok (.ifCond .ne 5, 3) := by decide +kernel
theorem dX11_free_34 : decode cX11_free 34 = .ok (.iload_n 1, 1) := by decide +kernel
theorem dX11_free_35 : decode cX11_free 35 = .ok (.ireturn, 1) := by decide +kernel
theorem dX11_free_36 : decode cX11_free 36 = .ok (.iinc 1 1, 3) := by decide +kernel
theorem dX11_free_39 : decode cX11_free 39 = .ok (.goto (-37), 3) := by decide +kernel
theorem dX11_free_42 : decode cX11_free 42 = .ok (.iconst (-1), 1) := by decide +kernel
theorem dX11_free_43 : decode cX11_free 43 = .ok (.ireturn, 1) := by decide +kernel
theorem dX11_undo_0 : decode cX11_undo 0 = .ok (.iload_n 1, 1) := by decide +kernel
theorem dX11_undo_1 : decode cX11_undo 1 = .ok (.iconst 1, 1) := by decide +kernel
theorem dX11_undo_2 : decode cX11_undo 2 = .ok (.if_icmp .lt 11, 3) := by decide +kernel
theorem dX11_undo_5 : decode cX11_undo 5 = .ok (.iload_n 1, 1) := by decide +kernel
theorem dX11_undo_6 : decode cX11_undo 6 = .ok (.aload_n 0, 1) := by decide +kernel
theorem dX11_undo_7 : decode cX11_undo 7 = .ok (.getfield 328, 3) := by decide +kernel
theorem dX11_undo_10 : decode cX11_undo 10 = .ok (.if_icmp .le 6, 3) := by decide +kernel
theorem dX11_undo_13 : decode cX11_undo 13 = .ok (.bipush (-3), 2) := by decide +kernel
theorem dX11_undo_15 : decode cX11_undo 15 = .ok (.ireturn, 1) := by decide +kernel
theorem dX11_undo_16 : decode cX11_undo 16 = .ok (.aload_n 0, 1) := by decide +kernel
theorem dX11_undo_17 : decode cX11_undo 17 = .ok (.dup, 1) := by decide +kernel
theorem dX11_undo_18 : decode cX11_undo 18 = .ok (.getfield 328, 3) := by decide +kernel
theorem dX11_undo_21 : decode cX11_undo 21 = .ok (.iload_n 1, 1) := by decide +kernel
theorem dX11_undo_22 : decode cX11_undo 22 = .ok (.isub, 1) := by decide +kernel
theorem dX11_undo_23 : decode cX11_undo 23 = .ok (.putfield 328, 3) := by decide +kernel
theorem dX11_undo_26 : decode cX11_undo 26 = .ok (.aload_n 0, 1) := by decide +kernel
theorem dX11_undo_27 : decode cX11_undo 27 = .ok (.getfield 10, 3) := by decide +kernel
theorem dX11_undo_30 : decode cX11_undo 30 = .ok (.aload_n 0, 1) := by decide +kernel
theorem dX11_undo_31 : decode cX11_undo 31 = .ok (.getfield 16, 3) := by decide +kernel
theorem dX11_undo_34 : decode cX11_undo 34 = .ok (.aload_n 0, 1) := by decide +kernel
theorem dX11_undo_35 : decode cX11_undo 35 = .ok (.getfield 331, 3) := by decide +kernel
theorem dX11_undo_38 : decode cX11_undo 38 = .ok (.aload_n 0, 1) := by decide +kernel
theorem dX11_undo_39 : decode cX11_undo 39 = .ok (.getfield 328, 3) := by decide +kernel
theorem dX11_undo_42 : decode cX11_undo 42 = .ok (.iadd, 1) := by decide +kernel
theorem dX11_undo_43 : decode cX11_undo 43 = .ok (.bipush 8, 2) := by decide +kernel
theorem dX11_undo_45 : decode cX11_undo 45 = .ok (.irem, 1) := by decide +kernel
theorem dX11_undo_46 : decode cX11_undo 46 = .ok (.aaload, 1) := by decide +kernel
theorem dX11_undo_47 : decode cX11_undo 47 = .ok (.invokevirtual 334, 3) := by decide +kernel
theorem dX11_undo_50 : decode cX11_undo 50 = .ok (.aload_n 0, 1) := by decide +kernel
theorem dX11_undo_51 : decode cX11_undo 51 = .ok (.getfield 328, 3) := by decide +kernel
theorem dX11_undo_54 : decode cX11_undo 54 = .ok (.ireturn, 1) := by decide +kernel
theorem dX11_image_0 : decode cX11_image 0 = .ok (.iload_n 1, 1) := by decide +kernel
theorem dX11_image_1 : decode cX11_image 1 = .ok (.ifCond .lt 8, 3) := by decide +kernel
theorem dX11_image_4 : decode cX11_image 4 = .ok (.iload_n 1, 1) := by decide +kernel
theorem dX11_image_5 : decode cX11_image 5 = .ok (.iconst 2, 1) := by decide +kernel
theorem dX11_image_6 : decode cX11_image 6 = .ok (.if_icmp .lt 6, 3) := by decide +kernel
theorem dX11_image_9 : decode cX11_image 9 = .ok (.bipush (-2), 2) := by decide +kernel
theorem dX11_image_11 : decode cX11_image 11 = .ok (.ireturn, 1) := by decide +kernel
theorem dX11_image_12 : decode cX11_image 12 = .ok (.aload_n 0, 1) := by decide +kernel
theorem dX11_image_13 : decode cX11_image 13 = .ok (.getfield 20, 3) := by decide +kernel
theorem dX11_image_16 : decode cX11_image 16 = .ok (.iload_n 1, 1) := by decide +kernel
theorem dX11_image_17 : decode cX11_image 17 = .ok (.aaload, 1) := by decide +kernel
theorem dX11_image_18 : decode cX11_image 18 = .ok (.aload_n 0, 1) := by decide +kernel
theorem dX11_image_19 : decode cX11_image 19 = .ok (.getfield 10, 3) := by decide +kernel
theorem dX11_image_22 : decode cX11_image 22 = .ok (.invokevirtual 334, 3) := by decide +kernel
theorem dX11_image_25 : decode cX11_image 25 = .ok (.aload_n 0, 1) := by decide +kernel
theorem dX11_image_26 : decode cX11_image 26 = .ok (.getfield 23, 3) := by decide +kernel
theorem dX11_image_29 : decode cX11_image 29 = .ok (.iload_n 1, 1) := by decide +kernel
theorem dX11_image_30 : decode cX11_image 30 = .ok (.iconst 1, 1) := by decide +kernel
theorem dX11_image_31 : decode cX11_image 31 = .ok (.bastore, 1) := by decide +kernel
theorem dX11_image_32 : decode cX11_image 32 = .ok (.iconst 0, 1) := by decide +kernel
theorem dX11_image_33 : decode cX11_image 33 = .ok (.ireturn, 1) := by decide +kernel
theorem dX11_restore_0 : decode cX11_restore 0 = .ok (.iload_n 1, 1) := by decide +kernel
theorem dX11_restore_1 : decode cX11_restore 1 = .ok (.ifCond .lt 8, 3) := by decide +kernel
theorem dX11_restore_4 : decode cX11_restore 4 = .ok (.iload_n 1, 1) := by decide +kernel
theorem dX11_restore_5 : decode cX11_restore 5 = .ok (.iconst 2, 1) := by decide +kernel
theorem dX11_restore_6 : decode cX11_restore 6 = .ok (.if_icmp .lt 6, 3) := by decide +kernel
theorem dX11_restore_9 : decode cX11_restore 9 = .ok (.bipush (-2), 2) := by decide +kernel
theorem dX11_restore_11 : decode cX11_restore 11 = .ok (.ireturn, 1) := by decide +kernel
theorem dX11_restore_12 : decode cX11_restore 12 = .ok (.aload_n 0, 1) := by decide +kernel
theorem dX11_restore_13 : decode cX11_restore 13 = .ok (.getfield 23, 3) := by decide +kernel
theorem dX11_restore_16 : decode cX11_restore 16 = .ok (.iload_n 1, 1) := by decide +kernel
theorem dX11_restore_17 : decode cX11_restore 17 = .ok (.baload, 1) := by decide +kernel
theorem dX11_restore_18 : decode cX11_restore 18 = .ok (.ifCond .ne 6, 3) := by decide +kernel
theorem dX11_restore_21 : decode cX11_restore 21 = .ok (.bipush (-6), 2) := by decide +kernel
theorem dX11_restore_23 : decode cX11_restore 23 = .ok (.ireturn, 1) := by decide +kernel
theorem dX11_restore_24 : decode cX11_restore 24 = .ok (.aload_n 0, 1) := by decide +kernel
theorem dX11_restore_25 : decode cX11_restore 25 = .ok (.getfield 10, 3) := by decide +kernel
theorem dX11_restore_28 : decode cX11_restore 28 = .ok (.aload_n 0, 1) := by decide +kernel
theorem dX11_restore_29 : decode cX11_restore 29 = .ok (.getfield 20, 3) := by decide +kernel
theorem dX11_restore_32 : decode cX11_restore 32 = .ok (.iload_n 1, 1) := by decide +kernel
theorem dX11_restore_33 : decode cX11_restore 33 = .ok (.aaload, 1) := by decide +kernel
theorem dX11_restore_34 : decode cX11_restore 34 = .ok (.invokevirtual 334, 3) := by decide +kernel
theorem dX11_restore_37 : decode cX11_restore 37 = .ok (.aload_n 0, 1) := by decide +kernel
theorem dX11_restore_38 : decode cX11_restore 38 = .ok (.iconst 0, 1) := by decide +kernel
theorem dX11_restore_39 : decode cX11_restore 39 = .ok (.putfield 328, 3) := by decide +kernel
theorem dX11_restore_42 : decode cX11_restore 42 = .ok (.iconst 0, 1) := by decide +kernel
theorem dX11_restore_43 : decode cX11_restore 43 = .ok (.ireturn, 1) := by decide +kernel
theorem dX11_count_0 : decode cX11_count 0 = .ok (.iload_n 1, 1) := by decide +kernel
theorem dX11_count_1 : decode cX11_count 1 = .ok (.bipush 10, 2) := by decide +kernel
theorem dX11_count_3 : decode cX11_count 3 = .ok (.if_icmp .lt 25, 3) := by decide +kernel
theorem dX11_count_6 : decode cX11_count 6 = .ok (.iload_n 1, 1) := by decide +kernel
theorem dX11_count_7 : decode cX11_count 7 = .ok (.bipush 14, 2) := by decide +kernel
theorem dX11_count_9 : decode cX11_count 9 = .ok (.if_icmp .ge 19, 3) := by decide +kernel
theorem dX11_count_12 : decode cX11_count 12 = .ok (.aload_n 0, 1) := by decide +kernel
theorem dX11_count_13 : decode cX11_count 13 = .ok (.getfield 10, 3) := by decide +kernel
theorem dX11_count_16 : decode cX11_count 16 = .ok (.getfield 62, 3) := by decide +kernel
theorem dX11_count_19 : decode cX11_count 19 = .ok (.iload_n 1, 1) := by decide +kernel
theorem dX11_count_20 : decode cX11_count 20 = .ok (.bipush 10, 2) := by decide +kernel
theorem dX11_count_22 : decode cX11_count 22 = .ok (.isub, 1) := by decide +kernel
theorem dX11_count_23 : decode cX11_count 23 = .ok (.aaload, 1) := by decide +kernel
theorem dX11_count_24 : decode cX11_count 24 = .ok (.getfield 105, 3) := by decide +kernel
theorem dX11_count_27 : decode cX11_count 27 = .ok (.ireturn, 1) := by decide +kernel
theorem dX11_count_28 : decode cX11_count 28 = .ok (.iload_n 1, 1) := by decide +kernel
theorem dX11_count_29 : decode cX11_count 29 = .ok (.bipush 20, 2) := by decide +kernel
theorem dX11_count_31 : decode cX11_count 31 = .ok (.if_icmp .lt 38, 3) := by decide +kernel
theorem dX11_count_34 : decode cX11_count 34 = .ok (.iload_n 1, 1) := by decide +kernel
theorem dX11_count_35 : decode cX11_count 35 = .ok (.bipush 24, 2) := by decide +kernel
theorem dX11_count_37 : decode cX11_count 37 = .ok (.if_icmp .ge 32, 3) := by decide +kernel
theorem dX11_count_40 : decode cX11_count 40 = .ok (.aload_n 0, 1) := by decide +kernel
theorem dX11_count_41 : decode cX11_count 41 = .ok (.getfield 10, 3) := by decide +kernel
theorem dX11_count_44 : decode cX11_count 44 = .ok (.getfield 62, 3) := by decide +kernel
theorem dX11_count_47 : decode cX11_count 47 = .ok (.iload_n 1, 1) := by decide +kernel
theorem dX11_count_48 : decode cX11_count 48 = .ok (.bipush 20, 2) := by decide +kernel
theorem dX11_count_50 : decode cX11_count 50 = .ok (.isub, 1) := by decide +kernel
theorem dX11_count_51 : decode cX11_count 51 = .ok (.aaload, 1) := by decide +kernel
theorem dX11_count_52 : decode cX11_count 52 = .ok (.astore_n 2, 1) := by decide +kernel
theorem dX11_count_53 : decode cX11_count 53 = .ok (.aload_n 2, 1) := by decide +kernel
theorem dX11_count_54 : decode cX11_count 54 = .ok (.getfield 66, 3) := by decide +kernel
theorem dX11_count_57 : decode cX11_count 57 = .ok (.ifCond .eq 10, 3) := by decide +kernel
theorem dX11_count_60 : decode cX11_count 60 = .ok (.aload_n 2, 1) := by decide +kernel
theorem dX11_count_61 : decode cX11_count 61 = .ok (.getfield 83, 3) := by decide +kernel
theorem dX11_count_64 : decode cX11_count 64 = .ok (.goto 4, 3) := by decide +kernel
theorem dX11_count_67 : decode cX11_count 67 = .ok (.iconst (-1), 1) := by decide +kernel
theorem dX11_count_68 : decode cX11_count 68 = .ok (.ireturn, 1) := by decide +kernel
theorem dX11_count_69 : decode cX11_count 69 = .ok (.iload_n 1, 1) := by decide +kernel
theorem dX11_count_70 : decode cX11_count 70 = .ok (.tableswitch 133 0 8 #[50, 61, 69, 77, 88, 104, 112, 117, 125], 50) := by decide +kernel
theorem dX11_count_120 : decode cX11_count 120 = .ok (.aload_n 0, 1) := by decide +kernel
theorem dX11_count_121 : decode cX11_count 121 = .ok (.getfield 10, 3) := by decide +kernel
theorem dX11_count_124 : decode cX11_count 124 = .ok (.getfield 174, 3) := by decide +kernel
theorem dX11_count_127 : decode cX11_count 127 = .ok (.invokevirtual 267, 3) := by decide +kernel
theorem dX11_count_130 : decode cX11_count 130 = .ok (.ireturn, 1) := by decide +kernel
theorem dX11_count_131 : decode cX11_count 131 = .ok (.aload_n 0, 1) := by decide +kernel
theorem dX11_count_132 : decode cX11_count 132 = .ok (.getfield 10, 3) := by decide +kernel
theorem dX11_count_135 : decode cX11_count 135 = .ok (.getfield 75, 3) := by decide +kernel
theorem dX11_count_138 : decode cX11_count 138 = .ok (.ireturn, 1) := by decide +kernel
theorem dX11_count_139 : decode cX11_count 139 = .ok (.aload_n 0, 1) := by decide +kernel
theorem dX11_count_140 : decode cX11_count 140 = .ok (.getfield 10, 3) := by decide +kernel
theorem dX11_count_143 : decode cX11_count 143 = .ok (.invokevirtual 338, 3) := by decide +kernel
theorem dX11_count_146 : decode cX11_count 146 = .ok (.ireturn, 1) := by decide +kernel
theorem dX11_count_147 : decode cX11_count 147 = .ok (.aload_n 0, 1) := by decide +kernel
theorem dX11_count_148 : decode cX11_count 148 = .ok (.getfield 10, 3) := by decide +kernel
theorem dX11_count_151 : decode cX11_count 151 = .ok (.getfield 174, 3) := by decide +kernel
theorem dX11_count_154 : decode cX11_count 154 = .ok (.invokevirtual 341, 3) := by decide +kernel
theorem dX11_count_157 : decode cX11_count 157 = .ok (.ireturn, 1) := by decide +kernel
theorem dX11_count_158 : decode cX11_count 158 = .ok (.aload_n 0, 1) := by decide +kernel
theorem dX11_count_159 : decode cX11_count 159 = .ok (.getfield 10, 3) := by decide +kernel
theorem dX11_count_162 : decode cX11_count 162 = .ok (.invokevirtual 344, 3) := by decide +kernel
theorem dX11_count_165 : decode cX11_count 165 = .ok (.ifCond .eq 7, 3) := by decide +kernel
theorem dX11_count_168 : decode cX11_count 168 = .ok (.iconst 1, 1) := by decide +kernel
theorem dX11_count_169 : decode cX11_count 169 = .ok (.goto 4, 3) := by decide +kernel
theorem dX11_count_172 : decode cX11_count 172 = .ok (.iconst 0, 1) := by decide +kernel
theorem dX11_count_173 : decode cX11_count 173 = .ok (.ireturn, 1) := by decide +kernel
theorem dX11_count_174 : decode cX11_count 174 = .ok (.aload_n 0, 1) := by decide +kernel
theorem dX11_count_175 : decode cX11_count 175 = .ok (.getfield 30, 3) := by decide +kernel
theorem dX11_count_178 : decode cX11_count 178 = .ok (.getfield 138, 3) := by decide +kernel
theorem dX11_count_181 : decode cX11_count 181 = .ok (.ireturn, 1) := by decide +kernel
theorem dX11_count_182 : decode cX11_count 182 = .ok (.aload_n 0, 1) := by decide +kernel
theorem dX11_count_183 : decode cX11_count 183 = .ok (.getfield 328, 3) := by decide +kernel
theorem dX11_count_186 : decode cX11_count 186 = .ok (.ireturn, 1) := by decide +kernel
theorem dX11_count_187 : decode cX11_count 187 = .ok (.aload_n 0, 1) := by decide +kernel
theorem dX11_count_188 : decode cX11_count 188 = .ok (.getfield 10, 3) := by decide +kernel
theorem dX11_count_191 : decode cX11_count 191 = .ok (.getfield 178, 3) := by decide +kernel
theorem dX11_count_194 : decode cX11_count 194 = .ok (.ireturn, 1) := by decide +kernel
theorem dX11_count_195 : decode cX11_count 195 = .ok (.aload_n 0, 1) := by decide +kernel
theorem dX11_count_196 : decode cX11_count 196 = .ok (.getfield 10, 3) := by decide +kernel
theorem dX11_count_199 : decode cX11_count 199 = .ok (.getfield 181, 3) := by decide +kernel
theorem dX11_count_202 : decode cX11_count 202 = .ok (.ireturn, 1) := by decide +kernel
theorem dX11_count_203 : decode cX11_count 203 = .ok (.iconst (-1), 1) := by decide +kernel
theorem dX11_count_204 : decode cX11_count 204 = .ok (.ireturn, 1) := by decide +kernel
theorem dX11_isTransaction_0 : decode cX11_isTransaction 0 = .ok (.iload_n 0, 1) := by decide +kernel
theorem dX11_isTransaction_1 : decode cX11_isTransaction 1 = .ok (.ifCond .lt 12, 3) := by decide +kernel
theorem dX11_isTransaction_4 : decode cX11_isTransaction 4 = .ok (.iload_n 0, 1) := by decide +kernel
theorem dX11_isTransaction_5 : decode cX11_isTransaction 5 = .ok (.iconst 4, 1) := by decide +kernel
theorem dX11_isTransaction_6 : decode cX11_isTransaction 6 = .ok (.if_icmp .ge 7, 3) := by decide +kernel
theorem dX11_isTransaction_9 : decode cX11_isTransaction 9 = .ok (.iconst 1, 1) := by decide +kernel
theorem dX11_isTransaction_10 : decode cX11_isTransaction 10 = .ok (.goto 4, 3) := by decide +kernel
theorem dX11_isTransaction_13 : decode cX11_isTransaction 13 = .ok (.iconst 0, 1) := by decide +kernel
theorem dX11_isTransaction_14 : decode cX11_isTransaction 14 = .ok (.ireturn, 1) := by decide +kernel
theorem dX11_isRow_0 : decode cX11_isRow 0 = .ok (.iload_n 0, 1) := by decide +kernel
theorem dX11_isRow_1 : decode cX11_isRow 1 = .ok (.ifCond .lt 13, 3) := by decide +kernel
theorem dX11_isRow_4 : decode cX11_isRow 4 = .ok (.iload_n 0, 1) := by decide +kernel
theorem dX11_isRow_5 : decode cX11_isRow 5 = .ok (.bipush 48, 2) := by decide +kernel
theorem dX11_isRow_7 : decode cX11_isRow 7 = .ok (.if_icmp .ge 7, 3) := by decide +kernel
theorem dX11_isRow_10 : decode cX11_isRow 10 = .ok (.iconst 1, 1) := by decide +kernel
theorem dX11_isRow_11 : decode cX11_isRow 11 = .ok (.goto 4, 3) := by decide +kernel
theorem dX11_isRow_14 : decode cX11_isRow 14 = .ok (.iconst 0, 1) := by decide +kernel
theorem dX11_isRow_15 : decode cX11_isRow 15 = .ok (.ireturn, 1) := by decide +kernel
theorem dX11_isColumn_0 : decode cX11_isColumn 0 = .ok (.iload_n 0, 1) := by decide +kernel
theorem dX11_isColumn_1 : decode cX11_isColumn 1 = .ok (.ifCond .lt 12, 3) := by decide +kernel
theorem dX11_isColumn_4 : decode cX11_isColumn 4 = .ok (.iload_n 0, 1) := by decide +kernel
theorem dX11_isColumn_5 : decode cX11_isColumn 5 = .ok (.iconst 3, 1) := by decide +kernel
theorem dX11_isColumn_6 : decode cX11_isColumn 6 = .ok (.if_icmp .ge 7, 3) := by decide +kernel
theorem dX11_isColumn_9 : decode cX11_isColumn 9 = .ok (.iconst 1, 1) := by decide +kernel
theorem dX11_isColumn_10 : decode cX11_isColumn 10 = .ok (.goto 4, 3) := by decide +kernel
theorem dX11_isColumn_13 : decode cX11_isColumn 13 = .ok (.iconst 0, 1) := by decide +kernel
theorem dX11_isColumn_14 : decode cX11_isColumn 14 = .ok (.ireturn, 1) := by decide +kernel
theorem dX11_isIndex_0 : decode cX11_isIndex 0 = .ok (.iload_n 0, 1) := by decide +kernel
theorem dX11_isIndex_1 : decode cX11_isIndex 1 = .ok (.ifCond .lt 12, 3) := by decide +kernel
theorem dX11_isIndex_4 : decode cX11_isIndex 4 = .ok (.iload_n 0, 1) := by decide +kernel
theorem dX11_isIndex_5 : decode cX11_isIndex 5 = .ok (.iconst 2, 1) := by decide +kernel
theorem dX11_isIndex_6 : decode cX11_isIndex 6 = .ok (.if_icmp .ge 7, 3) := by decide +kernel
theorem dX11_isIndex_9 : decode cX11_isIndex 9 = .ok (.iconst 1, 1) := by decide +kernel
theorem dX11_isIndex_10 : decode cX11_isIndex 10 = .ok (.goto 4, 3) := by decide +kernel
theorem dX11_isIndex_13 : decode cX11_isIndex 13 = .ok (.iconst 0, 1) := by decide +kernel
theorem dX11_isIndex_14 : decode cX11_isIndex 14 = .ok (.ireturn, 1) := by decide +kernel
theorem dX11_isNumber_0 : decode cX11_isNumber 0 = .ok (.iload_n 0, 1) := by decide +kernel
theorem dX11_isNumber_1 : decode cX11_isNumber 1 = .ok (.ifCond .lt 13, 3) := by decide +kernel
theorem dX11_isNumber_4 : decode cX11_isNumber 4 = .ok (.iload_n 0, 1) := by decide +kernel
theorem dX11_isNumber_5 : decode cX11_isNumber 5 = .ok (.bipush 100, 2) := by decide +kernel
theorem dX11_isNumber_7 : decode cX11_isNumber 7 = .ok (.if_icmp .ge 7, 3) := by decide +kernel
theorem dX11_isNumber_10 : decode cX11_isNumber 10 = .ok (.iconst 1, 1) := by decide +kernel
theorem dX11_isNumber_11 : decode cX11_isNumber 11 = .ok (.goto 4, 3) := by decide +kernel
theorem dX11_isNumber_14 : decode cX11_isNumber 14 = .ok (.iconst 0, 1) := by decide +kernel
theorem dX11_isNumber_15 : decode cX11_isNumber 15 = .ok (.ireturn, 1) := by decide +kernel
theorem dX11_areNumbers_0 : decode cX11_areNumbers 0 = .ok (.iload_n 0, 1) := by decide +kernel
theorem dX11_areNumbers_1 : decode cX11_areNumbers 1 = .ok (.invokestatic 261, 3) := by decide +kernel
theorem dX11_areNumbers_4 : decode cX11_areNumbers 4 = .ok (.ifCond .eq 21, 3) := by decide +kernel
theorem dX11_areNumbers_7 : decode cX11_areNumbers 7 = .ok (.iload_n 1, 1) := by decide +kernel
theorem dX11_areNumbers_8 : decode cX11_areNumbers 8 = .ok (.invokestatic 261, 3) := by decide +kernel
theorem dX11_areNumbers_11 : decode cX11_areNumbers 11 = .ok (.ifCond .eq 14, 3) := by decide +kernel
theorem dX11_areNumbers_14 : decode cX11_areNumbers 14 = .ok (.iload_n 2, 1) := by decide +kernel
theorem dX11_areNumbers_15 : decode cX11_areNumbers 15 = .ok (.invokestatic 261, 3) := by decide +kernel
theorem dX11_areNumbers_18 : decode cX11_areNumbers 18 = .ok (.ifCond .eq 7, 3) := by decide +kernel
theorem dX11_areNumbers_21 : decode cX11_areNumbers 21 = .ok (.iconst 1, 1) := by decide +kernel
theorem dX11_areNumbers_22 : decode cX11_areNumbers 22 = .ok (.goto 4, 3) := by decide +kernel
theorem dX11_areNumbers_25 : decode cX11_areNumbers 25 = .ok (.iconst 0, 1) := by decide +kernel
theorem dX11_areNumbers_26 : decode cX11_areNumbers 26 = .ok (.ireturn, 1) := by decide +kernel
theorem dX11_packed_0 : decode cX11_packed 0 = .ok (.iload_n 0, 1) := by decide +kernel
theorem dX11_packed_1 : decode cX11_packed 1 = .ok (.bipush 100, 2) := by decide +kernel
theorem dX11_packed_3 : decode cX11_packed 3 = .ok (.imul, 1) := by decide +kernel
theorem dX11_packed_4 : decode cX11_packed 4 = .ok (.iload_n 1, 1) := by decide +kernel
theorem dX11_packed_5 : decode cX11_packed 5 = .ok (.iadd, 1) := by decide +kernel
theorem dX11_packed_6 : decode cX11_packed 6 = .ok (.bipush 100, 2) := by decide +kernel
theorem dX11_packed_8 : decode cX11_packed 8 = .ok (.imul, 1) := by decide +kernel
theorem dX11_packed_9 : decode cX11_packed 9 = .ok (.iload_n 2, 1) := by decide +kernel
theorem dX11_packed_10 : decode cX11_packed 10 = .ok (.iadd, 1) := by decide +kernel
theorem dX11_packed_11 : decode cX11_packed 11 = .ok (.ireturn, 1) := by decide +kernel
theorem dX11_partOf_0 : decode cX11_partOf 0 = .ok (.iload_n 1, 1) := by decide +kernel
theorem dX11_partOf_1 : decode cX11_partOf 1 = .ok (.ifCond .ne 9, 3) := by decide +kernel
theorem dX11_partOf_4 : decode cX11_partOf 4 = .ok (.iload_n 0, 1) := by decide +kernel
theorem dX11_partOf_5 : decode cX11_partOf 5 = .ok (.sipush 10000, 3) := by decide +kernel
theorem dX11_partOf_8 : decode cX11_partOf 8 = .ok (.idiv, 1) := by decide +kernel
theorem dX11_partOf_9 : decode cX11_partOf 9 = .ok (.ireturn, 1) := by decide +kernel
theorem dX11_partOf_10 : decode cX11_partOf 10 = .ok (.iload_n 1, 1) := by decide +kernel
theorem dX11_partOf_11 : decode cX11_partOf 11 = .ok (.iconst 1, 1) := by decide +kernel
theorem dX11_partOf_12 : decode cX11_partOf 12 = .ok (.if_icmp .ne 13, 3) := by decide +kernel
theorem dX11_partOf_15 : decode cX11_partOf 15 = .ok (.iload_n 0, 1) := by decide +kernel
theorem dX11_partOf_16 : decode cX11_partOf 16 = .ok (.bipush 100, 2) := by decide +kernel
theorem dX11_partOf_18 : decode cX11_partOf 18 = .ok (.idiv, 1) := by decide +kernel
theorem dX11_partOf_19 : decode cX11_partOf 19 = .ok (.bipush 100, 2) := by decide +kernel
theorem dX11_partOf_21 : decode cX11_partOf 21 = .ok (.irem, 1) := by decide +kernel
theorem dX11_partOf_22 : decode cX11_partOf 22 = .ok (.goto 7, 3) := by decide +kernel
theorem dX11_partOf_25 : decode cX11_partOf 25 = .ok (.iload_n 0, 1) := by decide +kernel
theorem dX11_partOf_26 : decode cX11_partOf 26 = .ok (.bipush 100, 2) := by decide +kernel
theorem dX11_partOf_28 : decode cX11_partOf 28 = .ok (.irem, 1) := by decide +kernel
theorem dX11_partOf_29 : decode cX11_partOf 29 = .ok (.ireturn, 1) := by decide +kernel
theorem dX11_isViewer_0 : decode cX11_isViewer 0 = .ok (.iload_n 0, 1) := by decide +kernel
theorem dX11_isViewer_1 : decode cX11_isViewer 1 = .ok (.iconst (-1), 1) := by decide +kernel
theorem dX11_isViewer_2 : decode cX11_isViewer 2 = .ok (.if_icmp .eq 10, 3) := by decide +kernel
theorem dX11_isViewer_5 : decode cX11_isViewer 5 = .ok (.iload_n 0, 1) := by decide +kernel
theorem dX11_isViewer_6 : decode cX11_isViewer 6 = .ok (.invokestatic 58, 3) := by decide +kernel
theorem dX11_isViewer_9 : decode cX11_isViewer 9 = .ok (.ifCond .eq 7, 3) := by decide +kernel
theorem dX11_isViewer_12 : decode cX11_isViewer 12 = .ok (.iconst 1, 1) := by decide +kernel
theorem dX11_isViewer_13 : decode cX11_isViewer 13 = .ok (.goto 4, 3) := by decide +kernel
theorem dX11_isViewer_16 : decode cX11_isViewer 16 = .ok (.iconst 0, 1) := by decide +kernel
theorem dX11_isViewer_17 : decode cX11_isViewer 17 = .ok (.ireturn, 1) := by decide +kernel
theorem dX11_canView_0 : decode cX11_canView 0 = .ok (.iload_n 1, 1) := by decide +kernel
theorem dX11_canView_1 : decode cX11_canView 1 = .ok (.iconst (-1), 1) := by decide +kernel
theorem dX11_canView_2 : decode cX11_canView 2 = .ok (.if_icmp .eq 25, 3) := by decide +kernel
theorem dX11_canView_5 : decode cX11_canView 5 = .ok (.iload_n 1, 1) := by decide +kernel
theorem dX11_canView_6 : decode cX11_canView 6 = .ok (.invokestatic 58, 3) := by decide +kernel
theorem dX11_canView_9 : decode cX11_canView 9 = .ok (.ifCond .eq 22, 3) := by decide +kernel
theorem dX11_canView_12 : decode cX11_canView 12 = .ok (.aload_n 0, 1) := by decide +kernel
theorem dX11_canView_13 : decode cX11_canView 13 = .ok (.getfield 10, 3) := by decide +kernel
theorem dX11_canView_16 : decode cX11_canView 16 = .ok (.getfield 62, 3) := by decide +kernel
theorem dX11_canView_19 : decode cX11_canView 19 = .ok (.iload_n 1, 1) := by decide +kernel
theorem dX11_canView_20 : decode cX11_canView 20 = .ok (.aaload, 1) := by decide +kernel
theorem dX11_canView_21 : decode cX11_canView 21 = .ok (.getfield 66, 3) := by decide +kernel
theorem dX11_canView_24 : decode cX11_canView 24 = .ok (.ifCond .eq 7, 3) := by decide +kernel
theorem dX11_canView_27 : decode cX11_canView 27 = .ok (.iconst 1, 1) := by decide +kernel
theorem dX11_canView_28 : decode cX11_canView 28 = .ok (.goto 4, 3) := by decide +kernel
theorem dX11_canView_31 : decode cX11_canView 31 = .ok (.iconst 0, 1) := by decide +kernel
theorem dX11_canView_32 : decode cX11_canView 32 = .ok (.ireturn, 1) := by decide +kernel
theorem dX11_remember_0 : decode cX11_remember 0 = .ok (.aload_n 0, 1) := by decide +kernel
theorem dX11_remember_1 : decode cX11_remember 1 = .ok (.getfield 16, 3) := by decide +kernel
theorem dX11_remember_4 : decode cX11_remember 4 = .ok (.aload_n 0, 1) := by decide +kernel
theorem dX11_remember_5 : decode cX11_remember 5 = .ok (.getfield 331, 3) := by decide +kernel
theorem dX11_remember_8 : decode cX11_remember 8 = .ok (.aload_n 0, 1) := by decide +kernel
theorem dX11_remember_9 : decode cX11_remember 9 = .ok (.getfield 328, 3) := by decide +kernel
theorem dX11_remember_12 : decode cX11_remember 12 = .ok (.iadd, 1) := by decide +kernel
theorem dX11_remember_13 : decode cX11_remember 13 = .ok (.bipush 8, 2) := by decide +kernel
theorem dX11_remember_15 : decode cX11_remember 15 = .ok (.irem, 1) := by decide +kernel
theorem dX11_remember_16 : decode cX11_remember 16 = .ok (.aaload, 1) := by decide +kernel
theorem dX11_remember_17 : decode cX11_remember 17 = .ok (.aload_n 0, 1) := by decide +kernel
theorem dX11_remember_18 : decode cX11_remember 18 = .ok (.getfield 10, 3) := by decide +kernel
theorem dX11_remember_21 : decode cX11_remember 21 = .ok (.invokevirtual 334, 3) := by decide +kernel
theorem dX11_remember_24 : decode cX11_remember 24 = .ok (.aload_n 0, 1) := by decide +kernel
theorem dX11_remember_25 : decode cX11_remember 25 = .ok (.getfield 328, 3) := by decide +kernel
theorem dX11_remember_28 : decode cX11_remember 28 = .ok (.bipush 8, 2) := by decide +kernel
theorem dX11_remember_30 : decode cX11_remember 30 = .ok (.if_icmp .ge 16, 3) := by decide +kernel
theorem dX11_remember_33 : decode cX11_remember 33 = .ok (.aload_n 0, 1) := by decide +kernel
theorem dX11_remember_34 : decode cX11_remember 34 = .ok (.dup, 1) := by decide +kernel
theorem dX11_remember_35 : decode cX11_remember 35 = .ok (.getfield 328, 3) := by decide +kernel
theorem dX11_remember_38 : decode cX11_remember 38 = .ok (.iconst 1, 1) := by decide +kernel
theorem dX11_remember_39 : decode cX11_remember 39 = .ok (.iadd, 1) := by decide +kernel
theorem dX11_remember_40 : decode cX11_remember 40 = .ok (.putfield 328, 3) := by decide +kernel
theorem dX11_remember_43 : decode cX11_remember 43 = .ok (.goto 16, 3) := by decide +kernel
theorem dX11_remember_46 : decode cX11_remember 46 = .ok (.aload_n 0, 1) := by decide +kernel
theorem dX11_remember_47 : decode cX11_remember 47 = .ok (.aload_n 0, 1) := by decide +kernel
theorem dX11_remember_48 : decode cX11_remember 48 = .ok (.getfield 331, 3) := by decide +kernel
theorem dX11_remember_51 : decode cX11_remember 51 = .ok (.iconst 1, 1) := by decide +kernel
theorem dX11_remember_52 : decode cX11_remember 52 = .ok (.iadd, 1) := by decide +kernel
theorem dX11_remember_53 : decode cX11_remember 53 = .ok (.bipush 8, 2) := by decide +kernel
theorem dX11_remember_55 : decode cX11_remember 55 = .ok (.irem, 1) := by decide +kernel
theorem dX11_remember_56 : decode cX11_remember 56 = .ok (.putfield 331, 3) := by decide +kernel
theorem dX11_remember_59 : decode cX11_remember 59 = .ok (.return_, 1) := by decide +kernel
theorem dX11_refusalOfWrite_0 : decode cX11_refusalOfWrite 0 = .ok (.iload_n 1, 1) := by decide +kernel
theorem dX11_refusalOfWrite_1 : decode cX11_refusalOfWrite 1 = .ok (.invokestatic 58, 3) := by decide +kernel
theorem dX11_refusalOfWrite_4 : decode cX11_refusalOfWrite 4 = .ok (.ifCond .eq 10, 3) := by decide +kernel
theorem dX11_refusalOfWrite_7 : decode cX11_refusalOfWrite 7 = .ok (.iload_n 2, 1) := by decide +kernel
theorem dX11_refusalOfWrite_8 : decode cX11_refusalOfWrite 8 = .ok (.invokestatic 86, 3) := by decide +kernel
theorem dX11_refusalOfWrite_11 : decode cX11_refusalOfWrite 11 = .ok (.ifCond .ne 6, 3) := by decide +kernel
theorem dX11_refusalOfWrite_14 : decode cX11_refusalOfWrite 14 = .ok (.bipush (-2), 2) := by decide +kernel
theorem dX11_refusalOfWrite_16 : decode cX11_refusalOfWrite 16 = .ok (.ireturn, 1) := by decide +kernel
theorem dX11_refusalOfWrite_17 : decode cX11_refusalOfWrite 17 = .ok (.aload_n 0, 1) := by decide +kernel
theorem dX11_refusalOfWrite_18 : decode cX11_refusalOfWrite 18 = .ok (.getfield 10, 3) := by decide +kernel
theorem dX11_refusalOfWrite_21 : decode cX11_refusalOfWrite 21 = .ok (.getfield 62, 3) := by decide +kernel
theorem dX11_refusalOfWrite_24 : decode cX11_refusalOfWrite 24 = .ok (.iload_n 1, 1) := by decide +kernel
theorem dX11_refusalOfWrite_25 : decode cX11_refusalOfWrite 25 = .ok (.aaload, 1) := by decide +kernel
theorem dX11_refusalOfWrite_26 : decode cX11_refusalOfWrite 26 = .ok (.astore_n 3, 1) := by decide +kernel
theorem dX11_refusalOfWrite_27 : decode cX11_refusalOfWrite 27 = .ok (.aload_n 3, 1) := by decide +kernel
theorem dX11_refusalOfWrite_28 : decode cX11_refusalOfWrite 28 = .ok (.getfield 66, 3) := by decide +kernel
theorem dX11_refusalOfWrite_31 : decode cX11_refusalOfWrite 31 = .ok (.ifCond .ne 6, 3) := by decide +kernel
theorem dX11_refusalOfWrite_34 : decode cX11_refusalOfWrite 34 = .ok (.bipush (-5), 2) := by decide +kernel
theorem dX11_refusalOfWrite_36 : decode cX11_refusalOfWrite 36 = .ok (.ireturn, 1) := by decide +kernel
theorem dX11_refusalOfWrite_37 : decode cX11_refusalOfWrite 37 = .ok (.aload_n 3, 1) := by decide +kernel
theorem dX11_refusalOfWrite_38 : decode cX11_refusalOfWrite 38 = .ok (.iload_n 2, 1) := by decide +kernel
theorem dX11_refusalOfWrite_39 : decode cX11_refusalOfWrite 39 = .ok (.invokevirtual 347, 3) := by decide +kernel
theorem dX11_refusalOfWrite_42 : decode cX11_refusalOfWrite 42 = .ok (.ifCond .eq 7, 3) := by decide +kernel
theorem dX11_refusalOfWrite_45 : decode cX11_refusalOfWrite 45 = .ok (.iconst 0, 1) := by decide +kernel
theorem dX11_refusalOfWrite_46 : decode cX11_refusalOfWrite 46 = .ok (.goto 5, 3) := by decide +kernel
theorem dX11_refusalOfWrite_49 : decode cX11_refusalOfWrite 49 = .ok (.bipush (-4), 2) := by decide +kernel
theorem dX11_refusalOfWrite_51 : decode cX11_refusalOfWrite 51 = .ok (.ireturn, 1) := by decide +kernel
theorem dX11_refusalOfKey_0 : decode cX11_refusalOfKey 0 = .ok (.iload_n 1, 1) := by decide +kernel
theorem dX11_refusalOfKey_1 : decode cX11_refusalOfKey 1 = .ok (.invokestatic 144, 3) := by decide +kernel
theorem dX11_refusalOfKey_4 : decode cX11_refusalOfKey 4 = .ok (.ifCond .ne 6, 3) := by decide +kernel
theorem dX11_refusalOfKey_7 : decode cX11_refusalOfKey 7 = .ok (.bipush (-2), 2) := by decide +kernel
theorem dX11_refusalOfKey_9 : decode cX11_refusalOfKey 9 = .ok (.ireturn, 1) := by decide +kernel
theorem dX11_refusalOfKey_10 : decode cX11_refusalOfKey 10 = .ok (.iload_n 2, 1) := by decide +kernel
theorem dX11_refusalOfKey_11 : decode cX11_refusalOfKey 11 = .ok (.iload_n 3, 1) := by decide +kernel
theorem dX11_refusalOfKey_12 : decode cX11_refusalOfKey 12 = .ok (.iload 4, 2) := by decide +kernel
theorem dX11_refusalOfKey_14 : decode cX11_refusalOfKey 14 = .ok (.invokestatic 89, 3) := by decide +kernel
theorem dX11_refusalOfKey_17 : decode cX11_refusalOfKey 17 = .ok (.ifCond .ne 6, 3) := by decide +kernel
theorem dX11_refusalOfKey_20 : decode cX11_refusalOfKey 20 = .ok (.bipush (-3), 2) := by decide +kernel
theorem dX11_refusalOfKey_22 : decode cX11_refusalOfKey 22 = .ok (.ireturn, 1) := by decide +kernel
theorem dX11_refusalOfKey_23 : decode cX11_refusalOfKey 23 = .ok (.aload_n 0, 1) := by decide +kernel
theorem dX11_refusalOfKey_24 : decode cX11_refusalOfKey 24 = .ok (.getfield 10, 3) := by decide +kernel
theorem dX11_refusalOfKey_27 : decode cX11_refusalOfKey 27 = .ok (.getfield 147, 3) := by decide +kernel
theorem dX11_refusalOfKey_30 : decode cX11_refusalOfKey 30 = .ok (.iload_n 1, 1) := by decide +kernel
theorem dX11_refusalOfKey_31 : decode cX11_refusalOfKey 31 = .ok (.aaload, 1) := by decide +kernel
theorem dX11_refusalOfKey_32 : decode cX11_refusalOfKey 32 = .ok (.getfield 151, 3) := by decide +kernel
theorem dX11_refusalOfKey_35 : decode cX11_refusalOfKey 35 = .ok (.iconst 4, 1) := by decide +kernel
theorem dX11_refusalOfKey_36 : decode cX11_refusalOfKey 36 = .ok (.if_icmp .ne 7, 3) := by decide +kernel
theorem dX11_refusalOfKey_39 : decode cX11_refusalOfKey 39 = .ok (.iconst 0, 1) := by decide +kernel
theorem dX11_refusalOfKey_40 : decode cX11_refusalOfKey 40 = .ok (.goto 5, 3) := by decide +kernel
theorem dX11_refusalOfKey_43 : decode cX11_refusalOfKey 43 = .ok (.bipush (-5), 2) := by decide +kernel
theorem dX11_refusalOfKey_45 : decode cX11_refusalOfKey 45 = .ok (.ireturn, 1) := by decide +kernel
theorem dX11_indexFor_0 : decode cX11_indexFor 0 = .ok (.iconst 0, 1) := by decide +kernel
theorem dX11_indexFor_1 : decode cX11_indexFor 1 = .ok (.istore_n 2, 1) := by decide +kernel
theorem dX11_indexFor_2 : decode cX11_indexFor 2 = .ok (.iload_n 2, 1) := by decide +kernel
theorem dX11_indexFor_3 : decode cX11_indexFor 3 = .ok (.iconst 2, 1) := by decide +kernel
theorem dX11_indexFor_4 : decode cX11_indexFor 4 = .ok (.if_icmp .ge 57, 3) := by decide +kernel
theorem dX11_indexFor_7 : decode cX11_indexFor 7 = .ok (.aload_n 0, 1) := by decide +kernel
theorem dX11_indexFor_8 : decode cX11_indexFor 8 = .ok (.getfield 10, 3) := by decide +kernel
theorem dX11_indexFor_11 : decode cX11_indexFor 11 = .ok (.getfield 147, 3) := by decide +kernel
theorem dX11_indexFor_14 : decode cX11_indexFor 14 = .ok (.iload_n 2, 1) := by decide +kernel
theorem dX11_indexFor_15 : decode cX11_indexFor 15 = .ok (.aaload, 1) := by decide +kernel
theorem dX11_indexFor_16 : decode cX11_indexFor 16 = .ok (.astore_n 3, 1) := by decide +kernel
theorem dX11_indexFor_17 : decode cX11_indexFor 17 = .ok (.aload_n 3, 1) := by decide +kernel
theorem dX11_indexFor_18 : decode cX11_indexFor 18 = .ok (.getfield 219, 3) := by decide +kernel
theorem dX11_indexFor_21 : decode cX11_indexFor 21 = .ok (.astore 4, 2) := by decide +kernel
theorem dX11_indexFor_23 : decode cX11_indexFor 23 = .ok (.aload_n 3, 1) := by decide +kernel
theorem dX11_indexFor_24 : decode cX11_indexFor 24 = .ok (.getfield 151, 3) := by decide +kernel
theorem dX11_indexFor_27 : decode cX11_indexFor 27 = .ok (.iconst 4, 1) := by decide +kernel
theorem dX11_indexFor_28 : decode cX11_indexFor 28 = .ok (.if_icmp .ne 27, 3) := by decide +kernel
theorem dX11_indexFor_31 : decode cX11_indexFor 31 = .ok (.aload 4, 2) := by decide +kernel
theorem dX11_indexFor_33 : decode cX11_indexFor 33 = .ok (.getfield 350, 3) := by decide +kernel
theorem dX11_indexFor_36 : decode cX11_indexFor 36 = .ok (.ifCond .ne 19, 3) := by decide +kernel
theorem dX11_indexFor_39 : decode cX11_indexFor 39 = .ok (.aload 4, 2) := by decide +kernel
theorem dX11_indexFor_41 : decode cX11_indexFor 41 = .ok (.getfield 246, 3) := by decide +kernel
theorem dX11_indexFor_44 : decode cX11_indexFor 44 = .ok (.getfield 353, 3) := by decide +kernel
theorem dX11_indexFor_47 : decode cX11_indexFor 47 = .ok (.iconst 0, 1) := by decide +kernel
theorem dX11_indexFor_48 : decode cX11_indexFor 48 = .ok (.iaload, 1) := by decide +kernel
theorem dX11_indexFor_49 : decode cX11_indexFor 49 = .ok (.iload_n 1, 1) := by decide +kernel
theorem dX11_indexFor_50 : decode cX11_indexFor 50 = .ok (.if_icmp .ne 5, 3) := by decide +kernel
theorem dX11_indexFor_53 : decode cX11_indexFor 53 = .ok (.iload_n 2, 1) := by decide +kernel
theorem dX11_indexFor_54 : decode cX11_indexFor 54 = .ok (.ireturn, 1) := by decide +kernel
theorem dX11_indexFor_55 : decode cX11_indexFor 55 = .ok (.iinc 2 1, 3) := by decide +kernel
theorem dX11_indexFor_58 : decode cX11_indexFor 58 = .ok (.goto (-56), 3) := by decide +kernel
theorem dX11_indexFor_61 : decode cX11_indexFor 61 = .ok (.iconst (-1), 1) := by decide +kernel
theorem dX11_indexFor_62 : decode cX11_indexFor 62 = .ok (.ireturn, 1) := by decide +kernel
theorem dX11_gatherFound_0 : decode cX11_gatherFound 0 = .ok (.aload_n 0, 1) := by decide +kernel
theorem dX11_gatherFound_1 : decode cX11_gatherFound 1 = .ok (.getfield 54, 3) := by decide +kernel
theorem dX11_gatherFound_4 : decode cX11_gatherFound 4 = .ok (.invokevirtual 356, 3) := by decide +kernel
theorem dX11_gatherFound_7 : decode cX11_gatherFound 7 = .ok (.iconst 0, 1) := by decide +kernel
theorem dX11_gatherFound_8 : decode cX11_gatherFound 8 = .ok (.istore_n 2, 1) := by decide +kernel
theorem dX11_gatherFound_9 : decode cX11_gatherFound 9 = .ok (.iload_n 2, 1) := by decide +kernel
theorem dX11_gatherFound_10 : decode cX11_gatherFound 10 = .ok (.bipush 48, 2) := by decide +kernel
theorem dX11_gatherFound_12 : decode cX11_gatherFound 12 = .ok (.if_icmp .ge 57, 3) := by decide +kernel
theorem dX11_gatherFound_15 : decode cX11_gatherFound 15 = .ok (.aload_n 0, 1) := by decide +kernel
theorem dX11_gatherFound_16 : decode cX11_gatherFound 16 = .ok (.getfield 10, 3) := by decide +kernel
theorem dX11_gatherFound_19 : decode cX11_gatherFound 19 = .ok (.iload_n 1, 1) := by decide +kernel
theorem dX11_gatherFound_20 : decode cX11_gatherFound 20 = .ok (.iload_n 2, 1) := by decide +kernel
theorem dX11_gatherFound_21 : decode cX11_gatherFound 21 = .ok (.invokevirtual 108, 3) := by decide +kernel
theorem dX11_gatherFound_24 : decode cX11_gatherFound 24 = .ok (.istore_n 3, 1) := by decide +kernel
theorem dX11_gatherFound_25 : decode cX11_gatherFound 25 = .ok (.iload_n 3, 1) := by decide +kernel
theorem dX11_gatherFound_26 : decode cX11_gatherFound 26 = .ok (.iconst (-1), 1) := by decide +kernel
theorem dX11_gatherFound_27 : decode cX11_gatherFound 27 = .ok (.if_icmp .eq 36, 3) := by decide +kernel
theorem dX11_gatherFound_30 : decode cX11_gatherFound 30 = .ok (.aload_n 0, 1) := by decide +kernel
theorem dX11_gatherFound_31 : decode cX11_gatherFound 31 = .ok (.getfield 37, 3) := by decide +kernel
theorem dX11_gatherFound_34 : decode cX11_gatherFound 34 = .ok (.iload_n 3, 1) := by decide +kernel
theorem dX11_gatherFound_35 : decode cX11_gatherFound 35 = .ok (.invokevirtual 359, 3) := by decide +kernel
theorem dX11_gatherFound_38 : decode cX11_gatherFound 38 = .ok (.ifCond .eq 25, 3) := by decide +kernel
theorem dX11_gatherFound_41 : decode cX11_gatherFound 41 = .ok (.aload_n 0, 1) := by decide +kernel
theorem dX11_gatherFound_42 : decode cX11_gatherFound 42 = .ok (.getfield 54, 3) := by decide +kernel
theorem dX11_gatherFound_45 : decode cX11_gatherFound 45 = .ok (.aload_n 0, 1) := by decide +kernel
theorem dX11_gatherFound_46 : decode cX11_gatherFound 46 = .ok (.getfield 37, 3) := by decide +kernel
theorem dX11_gatherFound_49 : decode cX11_gatherFound 49 = .ok (.getfield 362, 3) := by decide +kernel
theorem dX11_gatherFound_52 : decode cX11_gatherFound 52 = .ok (.iload_n 3, 1) := by decide +kernel
theorem dX11_gatherFound_53 : decode cX11_gatherFound 53 = .ok (.invokevirtual 250, 3) := by decide +kernel
theorem dX11_gatherFound_56 : decode cX11_gatherFound 56 = .ok (.iload_n 2, 1) := by decide +kernel
theorem dX11_gatherFound_57 : decode cX11_gatherFound 57 = .ok (.invokestatic 365, 3) := by decide +kernel
theorem dX11_gatherFound_60 : decode cX11_gatherFound 60 = .ok (.invokevirtual 368, 3) := by decide +kernel
theorem dX11_gatherFound_63 : decode cX11_gatherFound 63 = .ok (.iinc 2 1, 3) := by decide +kernel
theorem dX11_gatherFound_66 : decode cX11_gatherFound 66 = .ok (.goto (-57), 3) := by decide +kernel
theorem dX11_gatherFound_69 : decode cX11_gatherFound 69 = .ok (.return_, 1) := by decide +kernel
theorem dX11_readsBy_0 : decode cX11_readsBy 0 = .ok (.iload_n 1, 1) := by decide +kernel
theorem dX11_readsBy_1 : decode cX11_readsBy 1 = .ok (.invokestatic 144, 3) := by decide +kernel
theorem dX11_readsBy_4 : decode cX11_readsBy 4 = .ok (.ifCond .eq 22, 3) := by decide +kernel
theorem dX11_readsBy_7 : decode cX11_readsBy 7 = .ok (.aload_n 0, 1) := by decide +kernel
theorem dX11_readsBy_8 : decode cX11_readsBy 8 = .ok (.getfield 37, 3) := by decide +kernel
theorem dX11_readsBy_11 : decode cX11_readsBy 11 = .ok (.aload_n 0, 1) := by decide +kernel
theorem dX11_readsBy_12 : decode cX11_readsBy 12 = .ok (.getfield 10, 3) := by decide +kernel
theorem dX11_readsBy_15 : decode cX11_readsBy 15 = .ok (.getfield 147, 3) := by decide +kernel
theorem dX11_readsBy_18 : decode cX11_readsBy 18 = .ok (.iload_n 1, 1) := by decide +kernel
theorem dX11_readsBy_19 : decode cX11_readsBy 19 = .ok (.aaload, 1) := by decide +kernel
theorem dX11_readsBy_20 : decode cX11_readsBy 20 = .ok (.invokevirtual 371, 3) := by decide +kernel
theorem dX11_readsBy_23 : decode cX11_readsBy 23 = .ok (.goto 13, 3) := by decide +kernel
theorem dX11_readsBy_26 : decode cX11_readsBy 26 = .ok (.aload_n 0, 1) := by decide +kernel
theorem dX11_readsBy_27 : decode cX11_readsBy 27 = .ok (.getfield 10, 3) := by decide +kernel
theorem dX11_readsBy_30 : decode cX11_readsBy 30 = .ok (.getfield 174, 3) := by decide +kernel
theorem dX11_readsBy_33 : decode cX11_readsBy 33 = .ok (.invokevirtual 267, 3) := by decide +kernel
theorem dX11_readsBy_36 : decode cX11_readsBy 36 = .ok (.ireturn, 1) := by decide +kernel
theorem dX11_cheapestIndex_0 : decode cX11_cheapestIndex 0 = .ok (.iconst (-1), 1) := by decide +kernel
theorem dX11_cheapestIndex_1 : decode cX11_cheapestIndex 1 = .ok (.istore_n 1, 1) := by decide +kernel
theorem dX11_cheapestIndex_2 : decode cX11_cheapestIndex 2 = .ok (.aload_n 0, 1) := by decide +kernel
theorem dX11_cheapestIndex_3 : decode cX11_cheapestIndex 3 = .ok (.iconst (-1), 1) := by decide +kernel
theorem dX11_cheapestIndex_4 : decode cX11_cheapestIndex 4 = .ok (.invokevirtual 292, 3) := by decide +kernel
theorem dX11_cheapestIndex_7 : decode cX11_cheapestIndex 7 = .ok (.istore_n 2, 1) := by decide +kernel
theorem dX11_cheapestIndex_8 : decode cX11_cheapestIndex 8 = .ok (.iconst 0, 1) := by decide +kernel
theorem dX11_cheapestIndex_9 : decode cX11_cheapestIndex 9 = .ok (.istore_n 3, 1) := by decide +kernel
theorem dX11_cheapestIndex_10 : decode cX11_cheapestIndex 10 = .ok (.iload_n 3, 1) := by decide +kernel
theorem dX11_cheapestIndex_11 : decode cX11_cheapestIndex 11 = .ok (.iconst 2, 1) := by decide +kernel
theorem dX11_cheapestIndex_12 : decode cX11_cheapestIndex 12 = .ok (.if_icmp .ge 45, 3) := by decide +kernel
theorem dX11_cheapestIndex_15 : decode cX11_cheapestIndex 15 = .ok (.aload_n 0, 1) := by decide +kernel
theorem dX11_cheapestIndex_16 : decode cX11_cheapestIndex 16 = .ok (.getfield 37, 3) := by decide +kernel
theorem dX11_cheapestIndex_19 : decode cX11_cheapestIndex 19 = .ok (.aload_n 0, 1) := by decide +kernel
theorem dX11_cheapestIndex_20 : decode cX11_cheapestIndex 20 = .ok (.getfield 10, 3) := by decide +kernel
theorem dX11_cheapestIndex_23 : decode cX11_cheapestIndex 23 = .ok (.getfield 147, 3) := by decide +kernel
theorem dX11_cheapestIndex_26 : decode cX11_cheapestIndex 26 = .ok (.iload_n 3, 1) := by decide +kernel
theorem dX11_cheapestIndex_27 : decode cX11_cheapestIndex 27 = .ok (.aaload, 1) := by decide +kernel
theorem dX11_cheapestIndex_28 : decode cX11_cheapestIndex 28 = .ok (.invokevirtual 374, 3) := by decide +kernel
theorem dX11_cheapestIndex_31 : decode cX11_cheapestIndex 31 = .ok (.ifCond .eq 20, 3) := by decide +kernel
theorem dX11_cheapestIndex_34 : decode cX11_cheapestIndex 34 = .ok (.aload_n 0, 1) := by decide +kernel
theorem dX11_cheapestIndex_35 : decode cX11_cheapestIndex 35 = .ok (.iload_n 3, 1) := by decide +kernel
theorem dX11_cheapestIndex_36 : decode cX11_cheapestIndex 36 = .ok (.invokevirtual 292, 3) := by decide +kernel
theorem dX11_cheapestIndex_39 : decode cX11_cheapestIndex 39 = .ok (.iload_n 2, 1) := by decide +kernel
theorem dX11_cheapestIndex_40 : decode cX11_cheapestIndex 40 = .ok (.if_icmp .ge 11, 3) := by decide +kernel
theorem dX11_cheapestIndex_43 : decode cX11_cheapestIndex 43 = .ok (.iload_n 3, 1) := by decide +kernel
theorem dX11_cheapestIndex_44 : decode cX11_cheapestIndex 44 = .ok (.istore_n 1, 1) := by decide +kernel
theorem dX11_cheapestIndex_45 : decode cX11_cheapestIndex 45 = .ok (.aload_n 0, 1) := by decide +kernel
theorem dX11_cheapestIndex_46 : decode cX11_cheapestIndex 46 = .ok (.iload_n 3, 1) := by decide +kernel
theorem dX11_cheapestIndex_47 : decode cX11_cheapestIndex 47 = .ok (.invokevirtual 292, 3) := by decide +kernel
theorem dX11_cheapestIndex_50 : decode cX11_cheapestIndex 50 = .ok (.istore_n 2, 1) := by decide +kernel
theorem dX11_cheapestIndex_51 : decode cX11_cheapestIndex 51 = .ok (.iinc 3 1, 3) := by decide +kernel
theorem dX11_cheapestIndex_54 : decode cX11_cheapestIndex 54 = .ok (.goto (-44), 3) := by decide +kernel
theorem dX11_cheapestIndex_57 : decode cX11_cheapestIndex 57 = .ok (.iload_n 1, 1) := by decide +kernel
theorem dX11_cheapestIndex_58 : decode cX11_cheapestIndex 58 = .ok (.ireturn, 1) := by decide +kernel
theorem dX11_isSortedBy_0 : decode cX11_isSortedBy 0 = .ok (.aload_n 0, 1) := by decide +kernel
theorem dX11_isSortedBy_1 : decode cX11_isSortedBy 1 = .ok (.getfield 37, 3) := by decide +kernel
theorem dX11_isSortedBy_4 : decode cX11_isSortedBy 4 = .ok (.getfield 362, 3) := by decide +kernel
theorem dX11_isSortedBy_7 : decode cX11_isSortedBy 7 = .ok (.getfield 378, 3) := by decide +kernel
theorem dX11_isSortedBy_10 : decode cX11_isSortedBy 10 = .ok (.ifCond .ne 5, 3) := by decide +kernel
theorem dX11_isSortedBy_13 : decode cX11_isSortedBy 13 = .ok (.iconst 1, 1) := by decide +kernel
theorem dX11_isSortedBy_14 : decode cX11_isSortedBy 14 = .ok (.ireturn, 1) := by decide +kernel
theorem dX11_isSortedBy_15 : decode cX11_isSortedBy 15 = .ok (.iload_n 1, 1) := by decide +kernel
theorem dX11_isSortedBy_16 : decode cX11_isSortedBy 16 = .ok (.invokestatic 144, 3) := by decide +kernel
theorem dX11_isSortedBy_19 : decode cX11_isSortedBy 19 = .ok (.ifCond .eq 35, 3) := by decide +kernel
theorem dX11_isSortedBy_22 : decode cX11_isSortedBy 22 = .ok (.aload_n 0, 1) := by decide +kernel
theorem dX11_isSortedBy_23 : decode cX11_isSortedBy 23 = .ok (.getfield 10, 3) := by decide +kernel
theorem dX11_isSortedBy_26 : decode cX11_isSortedBy 26 = .ok (.getfield 147, 3) := by decide +kernel
theorem dX11_isSortedBy_29 : decode cX11_isSortedBy 29 = .ok (.iload_n 1, 1) := by decide +kernel
theorem dX11_isSortedBy_30 : decode cX11_isSortedBy 30 = .ok (.aaload, 1) := by decide +kernel
theorem dX11_isSortedBy_31 : decode cX11_isSortedBy 31 = .ok (.getfield 219, 3) := by decide +kernel
theorem dX11_isSortedBy_34 : decode cX11_isSortedBy 34 = .ok (.getfield 246, 3) := by decide +kernel
theorem dX11_isSortedBy_37 : decode cX11_isSortedBy 37 = .ok (.aload_n 0, 1) := by decide +kernel
theorem dX11_isSortedBy_38 : decode cX11_isSortedBy 38 = .ok (.getfield 37, 3) := by decide +kernel
theorem dX11_isSortedBy_41 : decode cX11_isSortedBy 41 = .ok (.getfield 362, 3) := by decide +kernel
theorem dX11_isSortedBy_44 : decode cX11_isSortedBy 44 = .ok (.invokevirtual 379, 3) := by decide +kernel
theorem dX11_isSortedBy_47 : decode cX11_isSortedBy 47 = .ok (.ifCond .eq 7, 3) := by decide +kernel
theorem dX11_isSortedBy_50 : decode cX11_isSortedBy 50 = .ok (.iconst 1, 1) := by decide +kernel
theorem dX11_isSortedBy_51 : decode cX11_isSortedBy 51 = .ok (.goto 4, 3) := by decide +kernel
theorem dX11_isSortedBy_54 : decode cX11_isSortedBy 54 = .ok (.iconst 0, 1) := by decide +kernel
theorem dX11_isSortedBy_55 : decode cX11_isSortedBy 55 = .ok (.ireturn, 1) := by decide +kernel
theorem dX11_servingIndexes_0 : decode cX11_servingIndexes 0 = .ok (.iconst 0, 1) := by decide +kernel
theorem dX11_servingIndexes_1 : decode cX11_servingIndexes 1 = .ok (.istore_n 1, 1) := by decide +kernel
theorem dX11_servingIndexes_2 : decode cX11_servingIndexes 2 = .ok (.iconst 0, 1) := by decide +kernel
theorem dX11_servingIndexes_3 : decode cX11_servingIndexes 3 = .ok (.istore_n 2, 1) := by decide +kernel
theorem dX11_servingIndexes_4 : decode cX11_servingIndexes 4 = .ok (.iload_n 2, 1) := by decide +kernel
theorem dX11_servingIndexes_5 : decode cX11_servingIndexes 5 = .ok (.iconst 2, 1) := by decide +kernel
theorem dX11_servingIndexes_6 : decode cX11_servingIndexes 6 = .ok (.if_icmp .ge 34, 3) := by decide +kernel
theorem dX11_servingIndexes_9 : decode cX11_servingIndexes 9 = .ok (.aload_n 0, 1) := by decide +kernel
theorem dX11_servingIndexes_10 : decode cX11_servingIndexes 10 = .ok (.getfield 37, 3) := by decide +kernel
theorem dX11_servingIndexes_13 : decode cX11_servingIndexes 13 = .ok (.aload_n 0, 1) := by decide +kernel
theorem dX11_servingIndexes_14 : decode cX11_servingIndexes 14 = .ok (.getfield 10, 3) := by decide +kernel
theorem dX11_servingIndexes_17 : decode cX11_servingIndexes 17 = .ok (.getfield 147, 3) := by decide +kernel
theorem dX11_servingIndexes_20 : decode cX11_servingIndexes 20 = .ok (.iload_n 2, 1) := by decide +kernel
theorem dX11_servingIndexes_21 : decode cX11_servingIndexes 21 = .ok (.aaload, 1) := by decide +kernel
theorem dX11_servingIndexes_22 : decode cX11_servingIndexes 22 = .ok (.invokevirtual 374, 3) := by decide +kernel
theorem dX11_servingIndexes_25 : decode cX11_servingIndexes 25 = .ok (.ifCond .eq 9, 3) := by decide +kernel
theorem dX11_servingIndexes_28 : decode cX11_servingIndexes 28 = .ok (.iload_n 1, 1) := by decide +kernel
theorem dX11_servingIndexes_29 : decode cX11_servingIndexes 29 = .ok (.iconst 1, 1) := by decide +kernel
theorem dX11_servingIndexes_30 : decode cX11_servingIndexes 30 = .ok (.iload_n 2, 1) := by decide +kernel
theorem dX11_servingIndexes_31 : decode cX11_servingIndexes 31 = .ok (.ishl, 1) := by decide +kernel
theorem dX11_servingIndexes_32 : decode cX11_servingIndexes 32 = .ok (.ior, 1) := by decide +kernel
theorem dX11_servingIndexes_33 : decode cX11_servingIndexes 33 = .ok (.istore_n 1, 1) := by decide +kernel
theorem dX11_servingIndexes_34 : decode cX11_servingIndexes 34 = .ok (.iinc 2 1, 3) := by decide +kernel
theorem dX11_servingIndexes_37 : decode cX11_servingIndexes 37 = .ok (.goto (-33), 3) := by decide +kernel
theorem dX11_servingIndexes_40 : decode cX11_servingIndexes 40 = .ok (.iload_n 1, 1) := by decide +kernel
theorem dX11_servingIndexes_41 : decode cX11_servingIndexes 41 = .ok (.ireturn, 1) := by decide +kernel
theorem dX12_isIn_0 : decode cX12_isIn 0 = .ok (.lload_n 0, 1) := by decide +kernel
theorem dX12_isIn_1 : decode cX12_isIn 1 = .ok (.lload_n 2, 1) := by decide +kernel
theorem dX12_isIn_2 : decode cX12_isIn 2 = .ok (.lcmp, 1) := by decide +kernel
theorem dX12_isIn_3 : decode cX12_isIn 3 = .ok (.ifCond .lt 14, 3) := by decide +kernel
theorem dX12_isIn_6 : decode cX12_isIn 6 = .ok (.lload_n 0, 1) := by decide +kernel
theorem dX12_isIn_7 : decode cX12_isIn 7 = .ok (.lload 4, 2) := by decide +kernel
theorem dX12_isIn_9 : decode cX12_isIn 9 = .ok (.lcmp, 1) := by decide +kernel
theorem dX12_isIn_10 : decode cX12_isIn 10 = .ok (.ifCond .gt 7, 3) := by decide +kernel
theorem dX12_isIn_13 : decode cX12_isIn 13 = .ok (.iconst 1, 1) := by decide +kernel
theorem dX12_isIn_14 : decode cX12_isIn 14 = .ok (.goto 4, 3) := by decide +kernel
theorem dX12_isIn_17 : decode cX12_isIn 17 = .ok (.iconst 0, 1) := by decide +kernel
theorem dX12_isIn_18 : decode cX12_isIn 18 = .ok (.ireturn, 1) := by decide +kernel
theorem dX12_init_0 : decode cX12_init 0 = .ok (.aload_n 0, 1) := by decide +kernel
theorem dX12_init_1 : decode cX12_init 1 = .ok (.invokespecial 7, 3) := by decide +kernel
theorem dX12_init_4 : decode cX12_init 4 = .ok (.aload_n 0, 1) := by decide +kernel
theorem dX12_init_5 : decode cX12_init 5 = .ok (.sipush 16029, 3) := by decide +kernel
theorem dX12_init_8 : decode cX12_init 8 = .ok (.newarray .int, 2) := by decide +kernel
theorem dX12_init_10 : decode cX12_init 10 = .ok (.putfield 13, 3) := by decide +kernel
theorem dX12_init_13 : decode cX12_init 13 = .ok (.aload_n 0, 1) := by decide +kernel
theorem dX12_init_14 : decode cX12_init 14 = .ok (.ldc 17, 2) := by decide +kernel
theorem dX12_init_16 : decode cX12_init 16 = .ok (.newarray .int, 2) := by decide +kernel
theorem dX12_init_18 : decode cX12_init 18 = .ok (.putfield 18, 3) := by decide +kernel
theorem dX12_init_21 : decode cX12_init 21 = .ok (.aload_n 0, 1) := by decide +kernel
theorem dX12_init_22 : decode cX12_init 22 = .ok (.iconst 2, 1) := by decide +kernel
theorem dX12_init_23 : decode cX12_init 23 = .ok (.newarray .boolean, 2) := by decide +kernel
theorem dX12_init_25 : decode cX12_init 25 = .ok (.putfield 21, 3) := by decide +kernel
theorem dX12_init_28 : decode cX12_init 28 = .ok (.aload_n 0, 1) := by decide +kernel
theorem dX12_init_29 : decode cX12_init 29 = .ok (.iconst 3, 1) := by decide +kernel
theorem dX12_init_30 : decode cX12_init 30 = .ok (.newarray .int, 2) := by decide +kernel
theorem dX12_init_32 : decode cX12_init 32 = .ok (.putfield 25, 3) := by decide +kernel
theorem dX12_init_35 : decode cX12_init 35 = .ok (.aload_n 0, 1) := by decide +kernel
theorem dX12_init_36 : decode cX12_init 36 = .ok (.bipush 8, 2) := by decide +kernel
theorem dX12_init_38 : decode cX12_init 38 = .ok (.newarray .boolean, 2) := by decide +kernel
theorem dX12_init_40 : decode cX12_init 40 = .ok (.putfield 28, 3) := by decide +kernel
theorem dX12_init_43 : decode cX12_init 43 = .ok (.aload_n 0, 1) := by decide +kernel
theorem dX12_init_44 : decode cX12_init 44 = .ok (.bipush 100, 2) := by decide +kernel
theorem dX12_init_46 : decode cX12_init 46 = .ok (.newarray .byte, 2) := by decide +kernel
theorem dX12_init_48 : decode cX12_init 48 = .ok (.putfield 31, 3) := by decide +kernel
theorem dX12_init_51 : decode cX12_init 51 = .ok (.aload_n 0, 1) := by decide +kernel
theorem dX12_init_52 : decode cX12_init 52 = .ok (.iconst (-1), 1) := by decide +kernel
theorem dX12_init_53 : decode cX12_init 53 = .ok (.putfield 35, 3) := by decide +kernel
theorem dX12_init_56 : decode cX12_init 56 = .ok (.aload_n 0, 1) := by decide +kernel
theorem dX12_init_57 : decode cX12_init 57 = .ok (.bipush 13, 2) := by decide +kernel
theorem dX12_init_59 : decode cX12_init 59 = .ok (.newarray .int, 2) := by decide +kernel
theorem dX12_init_61 : decode cX12_init 61 = .ok (.putfield 38, 3) := by decide +kernel
theorem dX12_init_64 : decode cX12_init 64 = .ok (.aload_n 0, 1) := by decide +kernel
theorem dX12_init_65 : decode cX12_init 65 = .ok (.bipush 45, 2) := by decide +kernel
theorem dX12_init_67 : decode cX12_init 67 = .ok (.newarray .byte, 2) := by decide +kernel
theorem dX12_init_69 : decode cX12_init 69 = .ok (.dup, 1) := by decide +kernel
theorem dX12_init_70 : decode cX12_init 70 = .ok (.iconst 0, 1) := by decide +kernel
theorem dX12_init_71 : decode cX12_init 71 = .ok (.bipush 105, 2) := by decide +kernel
theorem dX12_init_73 : decode cX12_init 73 = .ok (.bastore, 1) := by decide +kernel
theorem dX12_init_74 : decode cX12_init 74 = .ok (.dup, 1) := by decide +kernel
theorem dX12_init_75 : decode cX12_init 75 = .ok (.iconst 1, 1) := by decide +kernel
theorem dX12_init_76 : decode cX12_init 76 = .ok (.bipush 110, 2) := by decide +kernel
theorem dX12_init_78 : decode cX12_init 78 = .ok (.bastore, 1) := by decide +kernel
theorem dX12_init_79 : decode cX12_init 79 = .ok (.dup, 1) := by decide +kernel
theorem dX12_init_80 : decode cX12_init 80 = .ok (.iconst 2, 1) := by decide +kernel
theorem dX12_init_81 : decode cX12_init 81 = .ok (.bipush 100, 2) := by decide +kernel
theorem dX12_init_83 : decode cX12_init 83 = .ok (.bastore, 1) := by decide +kernel
theorem dX12_init_84 : decode cX12_init 84 = .ok (.dup, 1) := by decide +kernel
theorem dX12_init_85 : decode cX12_init 85 = .ok (.iconst 3, 1) := by decide +kernel
theorem dX12_init_86 : decode cX12_init 86 = .ok (.bipush 101, 2) := by decide +kernel
theorem dX12_init_88 : decode cX12_init 88 = .ok (.bastore, 1) := by decide +kernel
theorem dX12_init_89 : decode cX12_init 89 = .ok (.dup, 1) := by decide +kernel
theorem dX12_init_90 : decode cX12_init 90 = .ok (.iconst 4, 1) := by decide +kernel
theorem dX12_init_91 : decode cX12_init 91 = .ok (.bipush 120, 2) := by decide +kernel
theorem dX12_init_93 : decode cX12_init 93 = .ok (.bastore, 1) := by decide +kernel
theorem dX12_init_94 : decode cX12_init 94 = .ok (.dup, 1) := by decide +kernel
theorem dX12_init_95 : decode cX12_init 95 = .ok (.iconst 5, 1) := by decide +kernel
theorem dX12_init_96 : decode cX12_init 96 = .ok (.iconst 0, 1) := by decide +kernel
theorem dX12_init_97 : decode cX12_init 97 = .ok (.bastore, 1) := by decide +kernel
theorem dX12_init_98 : decode cX12_init 98 = .ok (.dup, 1) := by decide +kernel
theorem dX12_init_99 : decode cX12_init 99 = .ok (.bipush 6, 2) := by decide +kernel
theorem dX12_init_101 : decode cX12_init 101 = .ok (.bipush 100, 2) := by decide +kernel
theorem dX12_init_103 : decode cX12_init 103 = .ok (.bastore, 1) := by decide +kernel
theorem dX12_init_104 : decode cX12_init 104 = .ok (.dup, 1) := by decide +kernel
theorem dX12_init_105 : decode cX12_init 105 = .ok (.bipush 7, 2) := by decide +kernel
theorem dX12_init_107 : decode cX12_init 107 = .ok (.bipush 101, 2) := by decide +kernel
theorem dX12_init_109 : decode cX12_init 109 = .ok (.bastore, 1) := by decide +kernel
theorem dX12_init_110 : decode cX12_init 110 = .ok (.dup, 1) := by decide +kernel
theorem dX12_init_111 : decode cX12_init 111 = .ok (.bipush 8, 2) := by decide +kernel
theorem dX12_init_113 : decode cX12_init 113 = .ok (.bipush 115, 2) := by decide +kernel
theorem dX12_init_115 : decode cX12_init 115 = .ok (.bastore, 1) := by decide +kernel
theorem dX12_init_116 : decode cX12_init 116 = .ok (.dup, 1) := by decide +kernel
theorem dX12_init_117 : decode cX12_init 117 = .ok (.bipush 9, 2) := by decide +kernel
theorem dX12_init_119 : decode cX12_init 119 = .ok (.bipush 99, 2) := by decide +kernel
theorem dX12_init_121 : decode cX12_init 121 = .ok (.bastore, 1) := by decide +kernel
theorem dX12_init_122 : decode cX12_init 122 = .ok (.dup, 1) := by decide +kernel
theorem dX12_init_123 : decode cX12_init 123 = .ok (.bipush 10, 2) := by decide +kernel
theorem dX12_init_125 : decode cX12_init 125 = .ok (.iconst 0, 1) := by decide +kernel
theorem dX12_init_126 : decode cX12_init 126 = .ok (.bastore, 1) := by decide +kernel
theorem dX12_init_127 : decode cX12_init 127 = .ok (.dup, 1) := by decide +kernel
theorem dX12_init_128 : decode cX12_init 128 = .ok (.bipush 11, 2) := by decide +kernel
theorem dX12_init_130 : decode cX12_init 130 = .ok (.bipush 117, 2) := by decide +kernel
theorem dX12_init_132 : decode cX12_init 132 = .ok (.bastore, 1) := by decide +kernel
theorem dX12_init_133 : decode cX12_init 133 = .ok (.dup, 1) := by decide +kernel
theorem dX12_init_134 : decode cX12_init 134 = .ok (.bipush 12, 2) := by decide +kernel
theorem dX12_init_136 : decode cX12_init 136 = .ok (.bipush 110, 2) := by decide +kernel
theorem dX12_init_138 : decode cX12_init 138 = .ok (.bastore, 1) := by decide +kernel
theorem dX12_init_139 : decode cX12_init 139 = .ok (.dup, 1) := by decide +kernel
theorem dX12_init_140 : decode cX12_init 140 = .ok (.bipush 13, 2) := by decide +kernel
theorem dX12_init_142 : decode cX12_init 142 = .ok (.bipush 105, 2) := by decide +kernel
theorem dX12_init_144 : decode cX12_init 144 = .ok (.bastore, 1) := by decide +kernel
theorem dX12_init_145 : decode cX12_init 145 = .ok (.dup, 1) := by decide +kernel
theorem dX12_init_146 : decode cX12_init 146 = .ok (.bipush 14, 2) := by decide +kernel
theorem dX12_init_148 : decode cX12_init 148 = .ok (.bipush 113, 2) := by decide +kernel
theorem dX12_init_150 : decode cX12_init 150 = .ok (.bastore, 1) := by decide +kernel
theorem dX12_init_151 : decode cX12_init 151 = .ok (.dup, 1) := by decide +kernel
theorem dX12_init_152 : decode cX12_init 152 = .ok (.bipush 15, 2) := by decide +kernel
theorem dX12_init_154 : decode cX12_init 154 = .ok (.bipush 117, 2) := by decide +kernel
theorem dX12_init_156 : decode cX12_init 156 = .ok (.bastore, 1) := by decide +kernel
theorem dX12_init_157 : decode cX12_init 157 = .ok (.dup, 1) := by decide +kernel
theorem dX12_init_158 : decode cX12_init 158 = .ok (.bipush 16, 2) := by decide +kernel
theorem dX12_init_160 : decode cX12_init 160 = .ok (.bipush 101, 2) := by decide +kernel
theorem dX12_init_162 : decode cX12_init 162 = .ok (.bastore, 1) := by decide +kernel
theorem dX12_init_163 : decode cX12_init 163 = .ok (.dup, 1) := by decide +kernel
theorem dX12_init_164 : decode cX12_init 164 = .ok (.bipush 17, 2) := by decide +kernel
theorem dX12_init_166 : decode cX12_init 166 = .ok (.iconst 0, 1) := by decide +kernel
theorem dX12_init_167 : decode cX12_init 167 = .ok (.bastore, 1) := by decide +kernel
theorem dX12_init_168 : decode cX12_init 168 = .ok (.dup, 1) := by decide +kernel
theorem dX12_init_169 : decode cX12_init 169 = .ok (.bipush 18, 2) := by decide +kernel
theorem dX12_init_171 : decode cX12_init 171 = .ok (.bipush 119, 2) := by decide +kernel
theorem dX12_init_173 : decode cX12_init 173 = .ok (.bastore, 1) := by decide +kernel
theorem dX12_init_174 : decode cX12_init 174 = .ok (.dup, 1) := by decide +kernel
theorem dX12_init_175 : decode cX12_init 175 = .ok (.bipush 19, 2) := by decide +kernel
theorem dX12_init_177 : decode cX12_init 177 = .ok (.bipush 104, 2) := by decide +kernel
theorem dX12_init_179 : decode cX12_init 179 = .ok (.bastore, 1) := by decide +kernel
theorem dX12_init_180 : decode cX12_init 180 = .ok (.dup, 1) := by decide +kernel
theorem dX12_init_181 : decode cX12_init 181 = .ok (.bipush 20, 2) := by decide +kernel
theorem dX12_init_183 : decode cX12_init 183 = .ok (.bipush 101, 2) := by decide +kernel
theorem dX12_init_185 : decode cX12_init 185 = .ok (.bastore, 1) := by decide +kernel
theorem dX12_init_186 : decode cX12_init 186 = .ok (.dup, 1) := by decide +kernel
theorem dX12_init_187 : decode cX12_init 187 = .ok (.bipush 21, 2) := by decide +kernel
theorem dX12_init_189 : decode cX12_init 189 = .ok (.bipush 114, 2) := by decide +kernel
theorem dX12_init_191 : decode cX12_init 191 = .ok (.bastore, 1) := by decide +kernel
theorem dX12_init_192 : decode cX12_init 192 = .ok (.dup, 1) := by decide +kernel
theorem dX12_init_193 : decode cX12_init 193 = .ok (.bipush 22, 2) := by decide +kernel
theorem dX12_init_195 : decode cX12_init 195 = .ok (.bipush 101, 2) := by decide +kernel
theorem dX12_init_197 : decode cX12_init 197 = .ok (.bastore, 1) := by decide +kernel
theorem dX12_init_198 : decode cX12_init 198 = .ok (.dup, 1) := by decide +kernel
theorem dX12_init_199 : decode cX12_init 199 = .ok (.bipush 23, 2) := by decide +kernel
theorem dX12_init_201 : decode cX12_init 201 = .ok (.iconst 0, 1) := by decide +kernel
theorem dX12_init_202 : decode cX12_init 202 = .ok (.bastore, 1) := by decide +kernel
theorem dX12_init_203 : decode cX12_init 203 = .ok (.dup, 1) := by decide +kernel
theorem dX12_init_204 : decode cX12_init 204 = .ok (.bipush 24, 2) := by decide +kernel
theorem dX12_init_206 : decode cX12_init 206 = .ok (.bipush 97, 2) := by decide +kernel
theorem dX12_init_208 : decode cX12_init 208 = .ok (.bastore, 1) := by decide +kernel
theorem dX12_init_209 : decode cX12_init 209 = .ok (.dup, 1) := by decide +kernel
theorem dX12_init_210 : decode cX12_init 210 = .ok (.bipush 25, 2) := by decide +kernel
theorem dX12_init_212 : decode cX12_init 212 = .ok (.iconst 0, 1) := by decide +kernel
theorem dX12_init_213 : decode cX12_init 213 = .ok (.bastore, 1) := by decide +kernel
theorem dX12_init_214 : decode cX12_init 214 = .ok (.dup, 1) := by decide +kernel
theorem dX12_init_215 : decode cX12_init 215 = .ok (.bipush 26, 2) := by decide +kernel
theorem dX12_init_217 : decode cX12_init 217 = .ok (.bipush 98, 2) := by decide +kernel
theorem dX12_init_219 : decode cX12_init 219 = .ok (.bastore, 1) := by decide +kernel
theorem dX12_init_220 : decode cX12_init 220 = .ok (.dup, 1) := by decide +kernel
theorem dX12_init_221 : decode cX12_init 221 = .ok (.bipush 27, 2) := by decide +kernel
theorem dX12_init_223 : decode cX12_init 223 = .ok (.iconst 0, 1) := by decide +kernel
theorem dX12_init_224 : decode cX12_init 224 = .ok (.bastore, 1) := by decide +kernel
theorem dX12_init_225 : decode cX12_init 225 = .ok (.dup, 1) := by decide +kernel
theorem dX12_init_226 : decode cX12_init 226 = .ok (.bipush 28, 2) := by decide +kernel
theorem dX12_init_228 : decode cX12_init 228 = .ok (.bipush 99, 2) := by decide +kernel
theorem dX12_init_230 : decode cX12_init 230 = .ok (.bastore, 1) := by decide +kernel
theorem dX12_init_231 : decode cX12_init 231 = .ok (.dup, 1) := by decide +kernel
theorem dX12_init_232 : decode cX12_init 232 = .ok (.bipush 29, 2) := by decide +kernel
theorem dX12_init_234 : decode cX12_init 234 = .ok (.iconst 0, 1) := by decide +kernel
theorem dX12_init_235 : decode cX12_init 235 = .ok (.bastore, 1) := by decide +kernel
theorem dX12_init_236 : decode cX12_init 236 = .ok (.dup, 1) := by decide +kernel
theorem dX12_init_237 : decode cX12_init 237 = .ok (.bipush 30, 2) := by decide +kernel
theorem dX12_init_239 : decode cX12_init 239 = .ok (.bipush 102, 2) := by decide +kernel
theorem dX12_init_241 : decode cX12_init 241 = .ok (.bastore, 1) := by decide +kernel
theorem dX12_init_242 : decode cX12_init 242 = .ok (.dup, 1) := by decide +kernel
theorem dX12_init_243 : decode cX12_init 243 = .ok (.bipush 31, 2) := by decide +kernel
theorem dX12_init_245 : decode cX12_init 245 = .ok (.bipush 105, 2) := by decide +kernel
theorem dX12_init_247 : decode cX12_init 247 = .ok (.bastore, 1) := by decide +kernel
theorem dX12_init_248 : decode cX12_init 248 = .ok (.dup, 1) := by decide +kernel
theorem dX12_init_249 : decode cX12_init 249 = .ok (.bipush 32, 2) := by decide +kernel
theorem dX12_init_251 : decode cX12_init 251 = .ok (.bipush 110, 2) := by decide +kernel
theorem dX12_init_253 : decode cX12_init 253 = .ok (.bastore, 1) := by decide +kernel
theorem dX12_init_254 : decode cX12_init 254 = .ok (.dup, 1) := by decide +kernel
theorem dX12_init_255 : decode cX12_init 255 = .ok (.bipush 33, 2) := by decide +kernel
theorem dX12_init_257 : decode cX12_init 257 = .ok (.bipush 100, 2) := by decide +kernel
theorem dX12_init_259 : decode cX12_init 259 = .ok (.bastore, 1) := by decide +kernel
theorem dX12_init_260 : decode cX12_init 260 = .ok (.dup, 1) := by decide +kernel
theorem dX12_init_261 : decode cX12_init 261 = .ok (.bipush 34, 2) := by decide +kernel
theorem dX12_init_263 : decode cX12_init 263 = .ok (.iconst 0, 1) := by decide +kernel
theorem dX12_init_264 : decode cX12_init 264 = .ok (.bastore, 1) := by decide +kernel
theorem dX12_init_265 : decode cX12_init 265 = .ok (.dup, 1) := by decide +kernel
theorem dX12_init_266 : decode cX12_init 266 = .ok (.bipush 35, 2) := by decide +kernel
theorem dX12_init_268 : decode cX12_init 268 = .ok (.bipush 97, 2) := by decide +kernel
theorem dX12_init_270 : decode cX12_init 270 = .ok (.bastore, 1) := by decide +kernel
theorem dX12_init_271 : decode cX12_init 271 = .ok (.dup, 1) := by decide +kernel
theorem dX12_init_272 : decode cX12_init 272 = .ok (.bipush 36, 2) := by decide +kernel
theorem dX12_init_274 : decode cX12_init 274 = .ok (.bipush 110, 2) := by decide +kernel
theorem dX12_init_276 : decode cX12_init 276 = .ok (.bastore, 1) := by decide +kernel
theorem dX12_init_277 : decode cX12_init 277 = .ok (.dup, 1) := by decide +kernel
theorem dX12_init_278 : decode cX12_init 278 = .ok (.bipush 37, 2) := by decide +kernel
theorem dX12_init_280 : decode cX12_init 280 = .ok (.bipush 100, 2) := by decide +kernel
theorem dX12_init_282 : decode cX12_init 282 = .ok (.bastore, 1) := by decide +kernel
theorem dX12_init_283 : decode cX12_init 283 = .ok (.dup, 1) := by decide +kernel
theorem dX12_init_284 : decode cX12_init 284 = .ok (.bipush 38, 2) := by decide +kernel
theorem dX12_init_286 : decode cX12_init 286 = .ok (.iconst 0, 1) := by decide +kernel
theorem dX12_init_287 : decode cX12_init 287 = .ok (.bastore, 1) := by decide +kernel
theorem dX12_init_288 : decode cX12_init 288 = .ok (.dup, 1) := by decide +kernel
theorem dX12_init_289 : decode cX12_init 289 = .ok (.bipush 39, 2) := by decide +kernel
theorem dX12_init_291 : decode cX12_init 291 = .ok (.bipush 111, 2) := by decide +kernel
theorem dX12_init_293 : decode cX12_init 293 = .ok (.bastore, 1) := by decide +kernel
theorem dX12_init_294 : decode cX12_init 294 = .ok (.dup, 1) := by decide +kernel
theorem dX12_init_295 : decode cX12_init 295 = .ok (.bipush 40, 2) := by decide +kernel
theorem dX12_init_297 : decode cX12_init 297 = .ok (.bipush 114, 2) := by decide +kernel
theorem dX12_init_299 : decode cX12_init 299 = .ok (.bastore, 1) := by decide +kernel
theorem dX12_init_300 : decode cX12_init 300 = .ok (.dup, 1) := by decide +kernel
theorem dX12_init_301 : decode cX12_init 301 = .ok (.bipush 41, 2) := by decide +kernel
theorem dX12_init_303 : decode cX12_init 303 = .ok (.bipush 100, 2) := by decide +kernel
theorem dX12_init_305 : decode cX12_init 305 = .ok (.bastore, 1) := by decide +kernel
theorem dX12_init_306 : decode cX12_init 306 = .ok (.dup, 1) := by decide +kernel
theorem dX12_init_307 : decode cX12_init 307 = .ok (.bipush 42, 2) := by decide +kernel
theorem dX12_init_309 : decode cX12_init 309 = .ok (.bipush 101, 2) := by decide +kernel
theorem dX12_init_311 : decode cX12_init 311 = .ok (.bastore, 1) := by decide +kernel
theorem dX12_init_312 : decode cX12_init 312 = .ok (.dup, 1) := by decide +kernel
theorem dX12_init_313 : decode cX12_init 313 = .ok (.bipush 43, 2) := by decide +kernel
theorem dX12_init_315 : decode cX12_init 315 = .ok (.bipush 114, 2) := by decide +kernel
theorem dX12_init_317 : decode cX12_init 317 = .ok (.bastore, 1) := by decide +kernel
theorem dX12_init_318 : decode cX12_init 318 = .ok (.dup, 1) := by decide +kernel
theorem dX12_init_319 : decode cX12_init 319 = .ok (.bipush 44, 2) := by decide +kernel
theorem dX12_init_321 : decode cX12_init 321 = .ok (.iconst 0, 1) := by decide +kernel
theorem dX12_init_322 : decode cX12_init 322 = .ok (.bastore, 1) := by decide +kernel
theorem dX12_init_323 : decode cX12_init 323 = .ok (.putfield 41, 3) := by decide +kernel
theorem dX12_init_326 : decode cX12_init 326 = .ok (.aload_n 0, 1) := by decide +kernel
theorem dX12_init_327 : decode cX12_init 327 = .ok (.bipush 12, 2) := by decide +kernel
theorem dX12_init_329 : decode cX12_init 329 = .ok (.newarray .int, 2) := by decide +kernel
theorem dX12_init_331 : decode cX12_init 331 = .ok (.putfield 44, 3) := by decide +kernel
theorem dX12_init_334 : decode cX12_init 334 = .ok (.aload_n 0, 1) := by decide +kernel
theorem dX12_init_335 : decode cX12_init 335 = .ok (.iconst 3, 1) := by decide +kernel
theorem dX12_init_336 : decode cX12_init 336 = .ok (.newarray .int, 2) := by decide +kernel
theorem dX12_init_338 : decode cX12_init 338 = .ok (.putfield 47, 3) := by decide +kernel
theorem dX12_init_341 : decode cX12_init 341 = .ok (.aload_n 0, 1) := by decide +kernel
theorem dX12_init_342 : decode cX12_init 342 = .ok (.bipush 15, 2) := by decide +kernel
theorem dX12_init_344 : decode cX12_init 344 = .ok (.newarray .int, 2) := by decide +kernel
theorem dX12_init_346 : decode cX12_init 346 = .ok (.putfield 50, 3) := by decide +kernel
theorem dX12_init_349 : decode cX12_init 349 = .ok (.aload_n 0, 1) := by decide +kernel
theorem dX12_init_350 : decode cX12_init 350 = .ok (.iconst (-1), 1) := by decide +kernel
theorem dX12_init_351 : decode cX12_init 351 = .ok (.putfield 53, 3) := by decide +kernel
theorem dX12_init_354 : decode cX12_init 354 = .ok (.aload_n 0, 1) := by decide +kernel
theorem dX12_init_355 : decode cX12_init 355 = .ok (.bipush 48, 2) := by decide +kernel
theorem dX12_init_357 : decode cX12_init 357 = .ok (.newarray .int, 2) := by decide +kernel
theorem dX12_init_359 : decode cX12_init 359 = .ok (.putfield 56, 3) := by decide +kernel
theorem dX12_init_362 : decode cX12_init 362 = .ok (.aload_n 0, 1) := by decide +kernel
theorem dX12_init_363 : decode cX12_init 363 = .ok (.iconst 4, 1) := by decide +kernel
theorem dX12_init_364 : decode cX12_init 364 = .ok (.newarray .boolean, 2) := by decide +kernel
theorem dX12_init_366 : decode cX12_init 366 = .ok (.putfield 59, 3) := by decide +kernel
theorem dX12_init_369 : decode cX12_init 369 = .ok (.aload_n 0, 1) := by decide +kernel
theorem dX12_init_370 : decode cX12_init 370 = .ok (.iconst 3, 1) := by decide +kernel
theorem dX12_init_371 : decode cX12_init 371 = .ok (.newarray .int, 2) := by decide +kernel
theorem dX12_init_373 : decode cX12_init 373 = .ok (.putfield 62, 3) := by decide +kernel
theorem dX12_init_376 : decode cX12_init 376 = .ok (.aload_n 0, 1) := by decide +kernel
theorem dX12_init_377 : decode cX12_init 377 = .ok (.bipush 48, 2) := by decide +kernel
theorem dX12_init_379 : decode cX12_init 379 = .ok (.newarray .int, 2) := by decide +kernel
theorem dX12_init_381 : decode cX12_init 381 = .ok (.putfield 65, 3) := by decide +kernel
theorem dX12_init_384 : decode cX12_init 384 = .ok (.iconst 0, 1) := by decide +kernel
theorem dX12_init_385 : decode cX12_init 385 = .ok (.istore_n 1, 1) := by decide +kernel
theorem dX12_init_386 : decode cX12_init 386 = .ok (.iload_n 1, 1) := by decide +kernel
theorem dX12_init_387 : decode cX12_init 387 = .ok (.bipush 48, 2) := by decide +kernel
theorem dX12_init_389 : decode cX12_init 389 = .ok (.if_icmp .ge 20, 3) := by decide +kernel
theorem dX12_init_392 : decode cX12_init 392 = .ok (.aload_n 0, 1) := by decide +kernel
theorem dX12_init_393 : decode cX12_init 393 = .ok (.getfield 13, 3) := by decide +kernel
theorem dX12_init_396 : decode cX12_init 396 = .ok (.sipush 1920, 3) := by decide +kernel
theorem dX12_init_399 : decode cX12_init 399 = .ok (.iload_n 1, 1) := by decide +kernel
theorem dX12_init_400 : decode cX12_init 400 = .ok (.iadd, 1) := by decide +kernel
theorem dX12_init_401 : decode cX12_init 401 = .ok (.iconst 1, 1) := by decide +kernel
theorem dX12_init_402 : decode cX12_init 402 = .ok (.iastore, 1) := by decide +kernel
theorem dX12_init_403 : decode cX12_init 403 = .ok (.iinc 1 1, 3) := by decide +kernel
theorem dX12_init_406 : decode cX12_init 406 = .ok (.goto (-20), 3) := by decide +kernel
theorem dX12_init_409 : decode cX12_init 409 = .ok (.iconst 0, 1) := by decide +kernel
theorem dX12_init_410 : decode cX12_init 410 = .ok (.istore_n 1, 1) := by decide +kernel
theorem dX12_init_411 : decode cX12_init 411 = .ok (.iload_n 1, 1) := by decide +kernel
theorem dX12_init_412 : decode cX12_init 412 = .ok (.iconst 2, 1) := by decide +kernel
theorem dX12_init_413 : decode cX12_init 413 = .ok (.if_icmp .ge 15, 3) := by decide +kernel
theorem dX12_init_416 : decode cX12_init 416 = .ok (.aload_n 0, 1) := by decide +kernel
theorem dX12_init_417 : decode cX12_init 417 = .ok (.iload_n 1, 1) := by decide +kernel
theorem dX12_init_418 : decode cX12_init 418 = .ok (.iconst 0, 1) := by decide +kernel
theorem dX12_init_419 : decode cX12_init 419 = .ok (.invokevirtual 68, 3) := by decide +kernel
theorem dX12_init_422 : decode cX12_init 422 = .ok (.iinc 1 1, 3) := by decide +kernel
theorem dX12_init_425 : decode cX12_init 425 = .ok (.goto (-14), 3) := by decide +kernel
theorem dX12_init_428 : decode cX12_init 428 = .ok (.aload_n 0, 1) := by decide +kernel
theorem dX12_init_429 : decode cX12_init 429 = .ok (.getfield 13, 3) := by decide +kernel
theorem dX12_init_432 : decode cX12_init 432 = .ok (.sipush 5341, 3) := by decide +kernel
theorem dX12_init_435 : decode cX12_init 435 = .ok (.iconst 3, 1) := by decide +kernel
theorem dX12_init_436 : decode cX12_init 436 = .ok (.iastore, 1) := by decide +kernel
theorem dX12_init_437 : decode cX12_init 437 = .ok (.aload_n 0, 1) := by decide +kernel
theorem dX12_init_438 : decode cX12_init 438 = .ok (.getfield 13, 3) := by decide +kernel
theorem dX12_init_441 : decode cX12_init 441 = .ok (.sipush 5342, 3) := by decide +kernel
theorem dX12_init_444 : decode cX12_init 444 = .ok (.iconst 5, 1) := by decide +kernel
theorem dX12_init_445 : decode cX12_init 445 = .ok (.iastore, 1) := by decide +kernel
theorem dX12_init_446 : decode cX12_init 446 = .ok (.return_, 1) := by decide +kernel
theorem dX12_copies_0 : decode cX12_copies 0 = .ok (.iconst 0, 1) := by decide +kernel
theorem dX12_copies_1 : decode cX12_copies 1 = .ok (.istore 5, 2) := by decide +kernel
theorem dX12_copies_3 : decode cX12_copies 3 = .ok (.iload 5, 2) := by decide +kernel
theorem dX12_copies_5 : decode cX12_copies 5 = .ok (.iload 4, 2) := by decide +kernel
theorem dX12_copies_7 : decode cX12_copies 7 = .ok (.if_icmp .ge 21, 3) := by decide +kernel
theorem dX12_copies_10 : decode cX12_copies 10 = .ok (.aload_n 2, 1) := by decide +kernel
theorem dX12_copies_11 : decode cX12_copies 11 = .ok (.iload_n 3, 1) := by decide +kernel
theorem dX12_copies_12 : decode cX12_copies 12 = .ok (.iload 5, 2) := by decide +kernel
theorem dX12_copies_14 : decode cX12_copies 14 = .ok (.iadd, 1) := by decide +kernel
theorem dX12_copies_15 : decode cX12_copies 15 = .ok (.aload_n 0, 1) := by decide +kernel
theorem dX12_copies_16 : decode cX12_copies 16 = .ok (.iload_n 1, 1) := by decide +kernel
theorem dX12_copies_17 : decode cX12_copies 17 = .ok (.iload 5, 2) := by decide +kernel
theorem dX12_copies_19 : decode cX12_copies 19 = .ok (.iadd, 1) := by decide +kernel
theorem dX12_copies_20 : decode cX12_copies 20 = .ok (.iaload, 1) := by decide +kernel
theorem dX12_copies_21 : decode cX12_copies 21 = .ok (.iastore, 1) := by decide +kernel
theorem dX12_copies_22 : decode cX12_copies 22 = .ok (.iinc 5 1, 3) := by decide +kernel
theorem dX12_copies_25 : decode cX12_copies 25 = .ok (.goto (-22), 3) := by decide +kernel
theorem dX12_copies_28 : decode cX12_copies 28 = .ok (.return_, 1) := by decide +kernel
theorem dX12_notes_0 : decode cX12_notes 0 = .ok (.aload_n 0, 1) := by decide +kernel
theorem dX12_notes_1 : decode cX12_notes 1 = .ok (.getfield 72, 3) := by decide +kernel
theorem dX12_notes_4 : decode cX12_notes 4 = .ok (.bipush 8, 2) := by decide +kernel
theorem dX12_notes_6 : decode cX12_notes 6 = .ok (.if_icmp .ne 30, 3) := by decide +kernel
theorem dX12_notes_9 : decode cX12_notes 9 = .ok (.aload_n 0, 1) := by decide +kernel
theorem dX12_notes_10 : decode cX12_notes 10 = .ok (.getfield 18, 3) := by decide +kernel
theorem dX12_notes_13 : decode cX12_notes 13 = .ok (.sipush 5343, 3) := by decide +kernel
theorem dX12_notes_16 : decode cX12_notes 16 = .ok (.aload_n 0, 1) := by decide +kernel
theorem dX12_notes_17 : decode cX12_notes 17 = .ok (.getfield 18, 3) := by decide +kernel
theorem dX12_notes_20 : decode cX12_notes 20 = .ok (.iconst 0, 1) := by decide +kernel
theorem dX12_notes_21 : decode cX12_notes 21 = .ok (.ldc 75, 2) := by decide +kernel
theorem dX12_notes_23 : decode cX12_notes 23 = .ok (.invokestatic 76, 3) := by decide +kernel
theorem dX12_notes_26 : decode cX12_notes 26 = .ok (.aload_n 0, 1) := by decide +kernel
theorem dX12_notes_27 : decode cX12_notes 27 = .ok (.dup, 1) := by decide +kernel
theorem dX12_notes_28 : decode cX12_notes 28 = .ok (.getfield 72, 3) := by decide +kernel
theorem dX12_notes_31 : decode cX12_notes 31 = .ok (.iconst 1, 1) := by decide +kernel
theorem dX12_notes_32 : decode cX12_notes 32 = .ok (.isub, 1) := by decide +kernel
theorem dX12_notes_33 : decode cX12_notes 33 = .ok (.putfield 72, 3) := by decide +kernel
theorem dX12_notes_36 : decode cX12_notes 36 = .ok (.aload_n 0, 1) := by decide +kernel
theorem dX12_notes_37 : decode cX12_notes 37 = .ok (.getfield 13, 3) := by decide +kernel
theorem dX12_notes_40 : decode cX12_notes 40 = .ok (.iconst 0, 1) := by decide +kernel
theorem dX12_notes_41 : decode cX12_notes 41 = .ok (.aload_n 0, 1) := by decide +kernel
theorem dX12_notes_42 : decode cX12_notes 42 = .ok (.getfield 18, 3) := by decide +kernel
theorem dX12_notes_45 : decode cX12_notes 45 = .ok (.sipush 5343, 3) := by decide +kernel
theorem dX12_notes_48 : decode cX12_notes 48 = .ok (.aload_n 0, 1) := by decide +kernel
theorem dX12_notes_49 : decode cX12_notes 49 = .ok (.getfield 72, 3) := by decide +kernel
theorem dX12_notes_52 : decode cX12_notes 52 = .ok (.imul, 1) := by decide +kernel
theorem dX12_notes_53 : decode cX12_notes 53 = .ok (.sipush 5343, 3) := by decide +kernel
theorem dX12_notes_56 : decode cX12_notes 56 = .ok (.invokestatic 76, 3) := by decide +kernel
theorem dX12_notes_59 : decode cX12_notes 59 = .ok (.aload_n 0, 1) := by decide +kernel
theorem dX12_notes_60 : decode cX12_notes 60 = .ok (.dup, 1) := by decide +kernel
theorem dX12_notes_61 : decode cX12_notes 61 = .ok (.getfield 72, 3) := by decide +kernel
theorem dX12_notes_64 : decode cX12_notes 64 = .ok (.iconst 1, 1) := by decide +kernel
theorem dX12_notes_65 : decode cX12_notes 65 = .ok (.iadd, 1) := by decide +kernel
theorem dX12_notes_66 : decode cX12_notes 66 = .ok (.putfield 72, 3) := by decide +kernel
theorem dX12_notes_69 : decode cX12_notes 69 = .ok (.return_, 1) := by decide +kernel
theorem dX12_ofIndex_0 : decode cX12_ofIndex 0 = .ok (.aload_n 0, 1) := by decide +kernel
theorem dX12_ofIndex_1 : decode cX12_ofIndex 1 = .ok (.getfield 13, 3) := by decide +kernel
theorem dX12_ofIndex_4 : decode cX12_ofIndex 4 = .ok (.sipush 2140, 3) := by decide +kernel
theorem dX12_ofIndex_7 : decode cX12_ofIndex 7 = .ok (.sipush 1600, 3) := by decide +kernel
theorem dX12_ofIndex_10 : decode cX12_ofIndex 10 = .ok (.iload_n 1, 1) := by decide +kernel
theorem dX12_ofIndex_11 : decode cX12_ofIndex 11 = .ok (.imul, 1) := by decide +kernel
theorem dX12_ofIndex_12 : decode cX12_ofIndex 12 = .ok (.iadd, 1) := by decide +kernel
theorem dX12_ofIndex_13 : decode cX12_ofIndex 13 = .ok (.iload_n 2, 1) := by decide +kernel
theorem dX12_ofIndex_14 : decode cX12_ofIndex 14 = .ok (.iadd, 1) := by decide +kernel
theorem dX12_ofIndex_15 : decode cX12_ofIndex 15 = .ok (.iaload, 1) := by decide +kernel
theorem dX12_ofIndex_16 : decode cX12_ofIndex 16 = .ok (.ireturn, 1) := by decide +kernel
theorem dX12_laysIndex_0 : decode cX12_laysIndex 0 = .ok (.aload_n 0, 1) := by decide +kernel
theorem dX12_laysIndex_1 : decode cX12_laysIndex 1 = .ok (.getfield 13, 3) := by decide +kernel
theorem dX12_laysIndex_4 : decode cX12_laysIndex 4 = .ok (.sipush 2140, 3) := by decide +kernel
theorem dX12_laysIndex_7 : decode cX12_laysIndex 7 = .ok (.sipush 1600, 3) := by decide +kernel
theorem dX12_laysIndex_10 : decode cX12_laysIndex 10 = .ok (.iload_n 1, 1) := by decide +kernel
theorem dX12_laysIndex_11 : decode cX12_laysIndex 11 = .ok (.imul, 1) := by decide +kernel
theorem dX12_laysIndex_12 : decode cX12_laysIndex 12 = .ok (.iadd, 1) := by decide +kernel
theorem dX12_laysIndex_13 : decode cX12_laysIndex 13 = .ok (.iload_n 2, 1) := by decide +kernel
theorem dX12_laysIndex_14 : decode cX12_laysIndex 14 = .ok (.iadd, 1) := by decide +kernel
theorem dX12_laysIndex_15 : decode cX12_laysIndex 15 = .ok (.iload_n 3, 1) := by decide +kernel
theorem dX12_laysIndex_16 : decode cX12_laysIndex 16 = .ok (.iastore, 1) := by decide +kernel
theorem dX12_laysIndex_17 : decode cX12_laysIndex 17 = .ok (.return_, 1) := by decide +kernel
theorem dX12_ofTransaction_0 : decode cX12_ofTransaction 0 = .ok (.aload_n 0, 1) := by decide +kernel
theorem dX12_ofTransaction_1 : decode cX12_ofTransaction 1 = .ok (.getfield 13, 3) := by decide +kernel
theorem dX12_ofTransaction_4 : decode cX12_ofTransaction 4 = .ok (.sipush 1968, 3) := by decide +kernel
theorem dX12_ofTransaction_7 : decode cX12_ofTransaction 7 = .ok (.bipush 43, 2) := by decide +kernel
theorem dX12_ofTransaction_9 : decode cX12_ofTransaction 9 = .ok (.iload_n 1, 1) := by decide +kernel
theorem dX12_ofTransaction_10 : decode cX12_ofTransaction 10 = .ok (.imul, 1) := by decide +kernel
theorem dX12_ofTransaction_11 : decode cX12_ofTransaction 11 = .ok (.iadd, 1) := by decide +kernel
theorem dX12_ofTransaction_12 : decode cX12_ofTransaction 12 = .ok (.iload_n 2, 1) := by decide +kernel
theorem dX12_ofTransaction_13 : decode cX12_ofTransaction 13 = .ok (.iadd, 1) := by decide +kernel
theorem dX12_ofTransaction_14 : decode cX12_ofTransaction 14 = .ok (.iaload, 1) := by decide +kernel
theorem dX12_ofTransaction_15 : decode cX12_ofTransaction 15 = .ok (.ireturn, 1) := by decide +kernel
theorem dX12_empties_0 : decode cX12_empties 0 = .ok (.iconst 0, 1) := by decide +kernel
theorem dX12_empties_1 : decode cX12_empties 1 = .ok (.istore_n 3, 1) := by decide +kernel
theorem dX12_empties_2 : decode cX12_empties 2 = .ok (.iload_n 3, 1) := by decide +kernel
theorem dX12_empties_3 : decode cX12_empties 3 = .ok (.sipush 1600, 3) := by decide +kernel
theorem dX12_empties_6 : decode cX12_empties 6 = .ok (.if_icmp .ge 16, 3) := by decide +kernel
theorem dX12_empties_9 : decode cX12_empties 9 = .ok (.aload_n 0, 1) := by decide +kernel
theorem dX12_empties_10 : decode cX12_empties 10 = .ok (.iload_n 1, 1) := by decide +kernel
theorem dX12_empties_11 : decode cX12_empties 11 = .ok (.iload_n 3, 1) := by decide +kernel
theorem dX12_empties_12 : decode cX12_empties 12 = .ok (.iconst 0, 1) := by decide +kernel
theorem dX12_empties_13 : decode cX12_empties 13 = .ok (.invokevirtual 80, 3) := by decide +kernel
theorem dX12_empties_16 : decode cX12_empties 16 = .ok (.iinc 3 1, 3) := by decide +kernel
theorem dX12_empties_19 : decode cX12_empties 19 = .ok (.goto (-17), 3) := by decide +kernel
theorem dX12_empties_22 : decode cX12_empties 22 = .ok (.aload_n 0, 1) := by decide +kernel
theorem dX12_empties_23 : decode cX12_empties 23 = .ok (.iload_n 1, 1) := by decide +kernel
theorem dX12_empties_24 : decode cX12_empties 24 = .ok (.iconst 1, 1) := by decide +kernel
theorem dX12_empties_25 : decode cX12_empties 25 = .ok (.iconst (-1), 1) := by decide +kernel
theorem dX12_empties_26 : decode cX12_empties 26 = .ok (.invokevirtual 80, 3) := by decide +kernel
theorem dX12_empties_29 : decode cX12_empties 29 = .ok (.aload_n 0, 1) := by decide +kernel
theorem dX12_empties_30 : decode cX12_empties 30 = .ok (.iload_n 1, 1) := by decide +kernel
theorem dX12_empties_31 : decode cX12_empties 31 = .ok (.iconst 3, 1) := by decide +kernel
theorem dX12_empties_32 : decode cX12_empties 32 = .ok (.iconst (-1), 1) := by decide +kernel
theorem dX12_empties_33 : decode cX12_empties 33 = .ok (.invokevirtual 80, 3) := by decide +kernel
theorem dX12_empties_36 : decode cX12_empties 36 = .ok (.aload_n 0, 1) := by decide +kernel
theorem dX12_empties_37 : decode cX12_empties 37 = .ok (.iload_n 1, 1) := by decide +kernel
theorem dX12_empties_38 : decode cX12_empties 38 = .ok (.bipush 9, 2) := by decide +kernel
theorem dX12_empties_40 : decode cX12_empties 40 = .ok (.iconst (-1), 1) := by decide +kernel
theorem dX12_empties_41 : decode cX12_empties 41 = .ok (.invokevirtual 80, 3) := by decide +kernel
theorem dX12_empties_44 : decode cX12_empties 44 = .ok (.iconst 0, 1) := by decide +kernel
theorem dX12_empties_45 : decode cX12_empties 45 = .ok (.istore_n 3, 1) := by decide +kernel
theorem dX12_empties_46 : decode cX12_empties 46 = .ok (.iload_n 3, 1) := by decide +kernel
theorem dX12_empties_47 : decode cX12_empties 47 = .ok (.iconst 3, 1) := by decide +kernel
theorem dX12_empties_48 : decode cX12_empties 48 = .ok (.if_icmp .ge 19, 3) := by decide +kernel
theorem dX12_empties_51 : decode cX12_empties 51 = .ok (.aload_n 0, 1) := by decide +kernel
theorem dX12_empties_52 : decode cX12_empties 52 = .ok (.iload_n 1, 1) := by decide +kernel
theorem dX12_empties_53 : decode cX12_empties 53 = .ok (.bipush 6, 2) := by decide +kernel
theorem dX12_empties_55 : decode cX12_empties 55 = .ok (.iload_n 3, 1) := by decide +kernel
theorem dX12_empties_56 : decode cX12_empties 56 = .ok (.iadd, 1) := by decide +kernel
theorem dX12_empties_57 : decode cX12_empties 57 = .ok (.iconst (-1), 1) := by decide +kernel
theorem dX12_empties_58 : decode cX12_empties 58 = .ok (.invokevirtual 80, 3) := by decide +kernel
theorem dX12_empties_61 : decode cX12_empties 61 = .ok (.iinc 3 1, 3) := by decide +kernel
theorem dX12_empties_64 : decode cX12_empties 64 = .ok (.goto (-18), 3) := by decide +kernel
theorem dX12_empties_67 : decode cX12_empties 67 = .ok (.aload_n 0, 1) := by decide +kernel
theorem dX12_empties_68 : decode cX12_empties 68 = .ok (.iload_n 1, 1) := by decide +kernel
theorem dX12_empties_69 : decode cX12_empties 69 = .ok (.bipush 12, 2) := by decide +kernel
theorem dX12_empties_71 : decode cX12_empties 71 = .ok (.iload_n 2, 1) := by decide +kernel
theorem dX12_empties_72 : decode cX12_empties 72 = .ok (.invokevirtual 80, 3) := by decide +kernel
theorem dX12_empties_75 : decode cX12_empties 75 = .ok (.return_, 1) := by decide +kernel
theorem dX12_isTransaction_0 : decode cX12_isTransaction 0 = .ok (.iload_n 0, 1) := by decide +kernel
theorem dX12_isTransaction_1 : decode cX12_isTransaction 1 = .ok (.i2l, 1) := by decide +kernel
theorem dX12_isTransaction_2 : decode cX12_isTransaction 2 = .ok (.lconst 0, 1) := by decide +kernel
theorem dX12_isTransaction_3 : decode cX12_isTransaction 3 = .ok (.ldc2_w 84, 3) := by decide +kernel
theorem dX12_isTransaction_6 : decode cX12_isTransaction 6 = .ok (.invokestatic 86, 3) := by decide +kernel
theorem dX12_isTransaction_9 : decode cX12_isTransaction 9 = .ok (.ireturn, 1) := by decide +kernel
theorem dX12_isRow_0 : decode cX12_isRow 0 = .ok (.iload_n 0, 1) := by decide +kernel
theorem dX12_isRow_1 : decode cX12_isRow 1 = .ok (.i2l, 1) := by decide +kernel
theorem dX12_isRow_2 : decode cX12_isRow 2 = .ok (.lconst 0, 1) := by decide +kernel
theorem dX12_isRow_3 : decode cX12_isRow 3 = .ok (.ldc2_w 90, 3) := by decide +kernel
theorem dX12_isRow_6 : decode cX12_isRow 6 = .ok (.invokestatic 86, 3) := by decide +kernel
theorem dX12_isRow_9 : decode cX12_isRow 9 = .ok (.ireturn, 1) := by decide +kernel
theorem dX12_isIndex_0 : decode cX12_isIndex 0 = .ok (.iload_n 0, 1) := by decide +kernel
theorem dX12_isIndex_1 : decode cX12_isIndex 1 = .ok (.i2l, 1) := by decide +kernel
theorem dX12_isIndex_2 : decode cX12_isIndex 2 = .ok (.lconst 0, 1) := by decide +kernel
theorem dX12_isIndex_3 : decode cX12_isIndex 3 = .ok (.lconst 1, 1) := by decide +kernel
theorem dX12_isIndex_4 : decode cX12_isIndex 4 = .ok (.invokestatic 86, 3) := by decide +kernel
theorem dX12_isIndex_7 : decode cX12_isIndex 7 = .ok (.ireturn, 1) := by decide +kernel
theorem dX12_isValue_0 : decode cX12_isValue 0 = .ok (.iload_n 0, 1) := by decide +kernel
theorem dX12_isValue_1 : decode cX12_isValue 1 = .ok (.i2l, 1) := by decide +kernel
theorem dX12_isValue_2 : decode cX12_isValue 2 = .ok (.lconst 0, 1) := by decide +kernel
theorem dX12_isValue_3 : decode cX12_isValue 3 = .ok (.ldc2_w 92, 3) := by decide +kernel
theorem dX12_isValue_6 : decode cX12_isValue 6 = .ok (.invokestatic 86, 3) := by decide +kernel
theorem dX12_isValue_9 : decode cX12_isValue 9 = .ok (.ireturn, 1) := by decide +kernel
theorem dX12_isOpen_0 : decode cX12_isOpen 0 = .ok (.aload_n 0, 1) := by decide +kernel
theorem dX12_isOpen_1 : decode cX12_isOpen 1 = .ok (.iload_n 1, 1) := by decide +kernel
theorem dX12_isOpen_2 : decode cX12_isOpen 2 = .ok (.iconst 0, 1) := by decide +kernel
theorem dX12_isOpen_3 : decode cX12_isOpen 3 = .ok (.invokevirtual 94, 3) := by decide +kernel
theorem dX12_isOpen_6 : decode cX12_isOpen 6 = .ok (.iconst 1, 1) := by decide +kernel
theorem dX12_isOpen_7 : decode cX12_isOpen 7 = .ok (.if_icmp .ne 7, 3) := by decide +kernel
theorem dX12_isOpen_10 : decode cX12_isOpen 10 = .ok (.iconst 1, 1) := by decide +kernel
theorem dX12_isOpen_11 : decode cX12_isOpen 11 = .ok (.goto 4, 3) := by decide +kernel
theorem dX12_isOpen_14 : decode cX12_isOpen 14 = .ok (.iconst 0, 1) := by decide +kernel
theorem dX12_isOpen_15 : decode cX12_isOpen 15 = .ok (.ireturn, 1) := by decide +kernel
theorem dX12_versionAt_0 : decode cX12_versionAt 0 = .ok (.bipush 40, 2) := by decide +kernel
theorem dX12_versionAt_2 : decode cX12_versionAt 2 = .ok (.iload_n 1, 1) := by decide +kernel
theorem dX12_versionAt_3 : decode cX12_versionAt 3 = .ok (.imul, 1) := by decide +kernel
theorem dX12_versionAt_4 : decode cX12_versionAt 4 = .ok (.istore_n 3, 1) := by decide +kernel
theorem dX12_versionAt_5 : decode cX12_versionAt 5 = .ok (.iconst 1, 1) := by decide +kernel
theorem dX12_versionAt_6 : decode cX12_versionAt 6 = .ok (.istore 4, 2) := by decide +kernel
theorem dX12_versionAt_8 : decode cX12_versionAt 8 = .ok (.iload 4, 2) := by decide +kernel
theorem dX12_versionAt_10 : decode cX12_versionAt 10 = .ok (.aload_n 0, 1) := by decide +kernel
theorem dX12_versionAt_11 : decode cX12_versionAt 11 = .ok (.getfield 13, 3) := by decide +kernel
theorem dX12_versionAt_14 : decode cX12_versionAt 14 = .ok (.sipush 1920, 3) := by decide +kernel
theorem dX12_versionAt_17 : decode cX12_versionAt 17 = .ok (.iload_n 1, 1) := by decide +kernel
theorem dX12_versionAt_18 : decode cX12_versionAt 18 = .ok (.iadd, 1) := by decide +kernel
theorem dX12_versionAt_19 : decode cX12_versionAt 19 = .ok (.iaload, 1) := by decide +kernel
theorem dX12_versionAt_20 : decode cX12_versionAt 20 = .ok (.if_icmp .ge 37, 3) := by decide +kernel
theorem dX12_versionAt_23 : decode cX12_versionAt 23 = .ok (.aload_n 0, 1) := by decide +kernel
theorem dX12_versionAt_24 : decode cX12_versionAt 24 = .ok (.getfield 13, 3) := by decide +kernel
theorem dX12_versionAt_27 : decode cX12_versionAt 27 = .ok (.bipush 40, 2) := by decide +kernel
theorem dX12_versionAt_29 : decode cX12_versionAt 29 = .ok (.iload_n 1, 1) := by decide +kernel
theorem dX12_versionAt_30 : decode cX12_versionAt 30 = .ok (.imul, 1) := by decide +kernel
theorem dX12_versionAt_31 : decode cX12_versionAt 31 = .ok (.iconst 5, 1) := by decide +kernel
theorem dX12_versionAt_32 : decode cX12_versionAt 32 = .ok (.iload 4, 2) := by decide +kernel
theorem dX12_versionAt_34 : decode cX12_versionAt 34 = .ok (.imul, 1) := by decide +kernel
theorem dX12_versionAt_35 : decode cX12_versionAt 35 = .ok (.iadd, 1) := by decide +kernel
theorem dX12_versionAt_36 : decode cX12_versionAt 36 = .ok (.iaload, 1) := by decide +kernel
theorem dX12_versionAt_37 : decode cX12_versionAt 37 = .ok (.iload_n 2, 1) := by decide +kernel
theorem dX12_versionAt_38 : decode cX12_versionAt 38 = .ok (.if_icmp .gt 13, 3) := by decide +kernel
theorem dX12_versionAt_41 : decode cX12_versionAt 41 = .ok (.bipush 40, 2) := by decide +kernel
theorem dX12_versionAt_43 : decode cX12_versionAt 43 = .ok (.iload_n 1, 1) := by decide +kernel
theorem dX12_versionAt_44 : decode cX12_versionAt 44 = .ok (.imul, 1) := by decide +kernel
theorem dX12_versionAt_45 : decode cX12_versionAt 45 = .ok (.iconst 5, 1) := by decide +kernel
theorem dX12_versionAt_46 : decode cX12_versionAt 46 = .ok (.iload 4, 2) := by decide +kernel
theorem dX12_versionAt_48 : decode cX12_versionAt 48 = .ok (.imul, 1) := by decide +kernel
theorem dX12_versionAt_49 : decode cX12_versionAt 49 = .ok (.iadd, 1) := by decide +kernel
theorem dX12_versionAt_50 : decode cX12_versionAt 50 = .ok (.istore_n 3, 1) := by decide +kernel
theorem dX12_versionAt_51 : decode cX12_versionAt 51 = .ok (.iinc 4 1, 3) := by decide +kernel
theorem dX12_versionAt_54 : decode cX12_versionAt 54 = .ok (.goto (-46), 3) := by decide +kernel
theorem dX12_versionAt_57 : decode cX12_versionAt 57 = .ok (.iload_n 3, 1) := by decide +kernel
theorem dX12_versionAt_58 : decode cX12_versionAt 58 = .ok (.ireturn, 1) := by decide +kernel
theorem dX12_latest_0 : decode cX12_latest 0 = .ok (.bipush 40, 2) := by decide +kernel
theorem dX12_latest_2 : decode cX12_latest 2 = .ok (.iload_n 1, 1) := by decide +kernel
theorem dX12_latest_3 : decode cX12_latest 3 = .ok (.imul, 1) := by decide +kernel
theorem dX12_latest_4 : decode cX12_latest 4 = .ok (.iconst 5, 1) := by decide +kernel
theorem dX12_latest_5 : decode cX12_latest 5 = .ok (.aload_n 0, 1) := by decide +kernel
theorem dX12_latest_6 : decode cX12_latest 6 = .ok (.getfield 13, 3) := by decide +kernel
theorem dX12_latest_9 : decode cX12_latest 9 = .ok (.sipush 1920, 3) := by decide +kernel
theorem dX12_latest_12 : decode cX12_latest 12 = .ok (.iload_n 1, 1) := by decide +kernel
theorem dX12_latest_13 : decode cX12_latest 13 = .ok (.iadd, 1) := by decide +kernel
theorem dX12_latest_14 : decode cX12_latest 14 = .ok (.iaload, 1) := by decide +kernel
theorem dX12_latest_15 : decode cX12_latest 15 = .ok (.iconst 1, 1) := by decide +kernel
theorem dX12_latest_16 : decode cX12_latest 16 = .ok (.isub, 1) := by decide +kernel
theorem dX12_latest_17 : decode cX12_latest 17 = .ok (.imul, 1) := by decide +kernel
theorem dX12_latest_18 : decode cX12_latest 18 = .ok (.iadd, 1) := by decide +kernel
theorem dX12_latest_19 : decode cX12_latest 19 = .ok (.ireturn, 1) := by decide +kernel
theorem dX12_writeAt_0 : decode cX12_writeAt 0 = .ok (.sipush 1968, 3) := by decide +kernel
theorem dX12_writeAt_3 : decode cX12_writeAt 3 = .ok (.bipush 43, 2) := by decide +kernel
theorem dX12_writeAt_5 : decode cX12_writeAt 5 = .ok (.iload_n 1, 1) := by decide +kernel
theorem dX12_writeAt_6 : decode cX12_writeAt 6 = .ok (.imul, 1) := by decide +kernel
theorem dX12_writeAt_7 : decode cX12_writeAt 7 = .ok (.iadd, 1) := by decide +kernel
theorem dX12_writeAt_8 : decode cX12_writeAt 8 = .ok (.iconst 3, 1) := by decide +kernel
theorem dX12_writeAt_9 : decode cX12_writeAt 9 = .ok (.iadd, 1) := by decide +kernel
theorem dX12_writeAt_10 : decode cX12_writeAt 10 = .ok (.istore_n 3, 1) := by decide +kernel
theorem dX12_writeAt_11 : decode cX12_writeAt 11 = .ok (.iconst 0, 1) := by decide +kernel
theorem dX12_writeAt_12 : decode cX12_writeAt 12 = .ok (.istore 4, 2) := by decide +kernel
theorem dX12_writeAt_14 : decode cX12_writeAt 14 = .ok (.iload 4, 2) := by decide +kernel
theorem dX12_writeAt_16 : decode cX12_writeAt 16 = .ok (.aload_n 0, 1) := by decide +kernel
theorem dX12_writeAt_17 : decode cX12_writeAt 17 = .ok (.iload_n 1, 1) := by decide +kernel
theorem dX12_writeAt_18 : decode cX12_writeAt 18 = .ok (.iconst 2, 1) := by decide +kernel
theorem dX12_writeAt_19 : decode cX12_writeAt 19 = .ok (.invokevirtual 94, 3) := by decide +kernel
theorem dX12_writeAt_22 : decode cX12_writeAt 22 = .ok (.if_icmp .ge 31, 3) := by decide +kernel
theorem dX12_writeAt_25 : decode cX12_writeAt 25 = .ok (.aload_n 0, 1) := by decide +kernel
theorem dX12_writeAt_26 : decode cX12_writeAt 26 = .ok (.getfield 13, 3) := by decide +kernel
theorem dX12_writeAt_29 : decode cX12_writeAt 29 = .ok (.iload_n 3, 1) := by decide +kernel
theorem dX12_writeAt_30 : decode cX12_writeAt 30 = .ok (.iconst 5, 1) := by decide +kernel
theorem dX12_writeAt_31 : decode cX12_writeAt 31 = .ok (.iload 4, 2) := by decide +kernel
theorem dX12_writeAt_33 : decode cX12_writeAt 33 = .ok (.imul, 1) := by decide +kernel
theorem dX12_writeAt_34 : decode cX12_writeAt 34 = .ok (.iadd, 1) := by decide +kernel
theorem dX12_writeAt_35 : decode cX12_writeAt 35 = .ok (.iaload, 1) := by decide +kernel
theorem dX12_writeAt_36 : decode cX12_writeAt 36 = .ok (.iload_n 2, 1) := by decide +kernel
theorem dX12_writeAt_37 : decode cX12_writeAt 37 = .ok (.if_icmp .ne 10, 3) := by decide +kernel
theorem dX12_writeAt_40 : decode cX12_writeAt 40 = .ok (.iload_n 3, 1) := by decide +kernel
theorem dX12_writeAt_41 : decode cX12_writeAt 41 = .ok (.iconst 5, 1) := by decide +kernel
theorem dX12_writeAt_42 : decode cX12_writeAt 42 = .ok (.iload 4, 2) := by decide +kernel
theorem dX12_writeAt_44 : decode cX12_writeAt 44 = .ok (.imul, 1) := by decide +kernel
theorem dX12_writeAt_45 : decode cX12_writeAt 45 = .ok (.iadd, 1) := by decide +kernel
theorem dX12_writeAt_46 : decode cX12_writeAt 46 = .ok (.ireturn, 1) := by decide +kernel
theorem dX12_writeAt_47 : decode cX12_writeAt 47 = .ok (.iinc 4 1, 3) := by decide +kernel
theorem dX12_writeAt_50 : decode cX12_writeAt 50 = .ok (.goto (-36), 3) := by decide +kernel
theorem dX12_writeAt_53 : decode cX12_writeAt 53 = .ok (.iconst (-1), 1) := by decide +kernel
theorem dX12_writeAt_54 : decode cX12_writeAt 54 = .ok (.ireturn, 1) := by decide +kernel
theorem dX12_seenAt_0 : decode cX12_seenAt 0 = .ok (.aload_n 0, 1) := by decide +kernel
theorem dX12_seenAt_1 : decode cX12_seenAt 1 = .ok (.iload_n 1, 1) := by decide +kernel
theorem dX12_seenAt_2 : decode cX12_seenAt 2 = .ok (.iload_n 2, 1) := by decide +kernel
theorem dX12_seenAt_3 : decode cX12_seenAt 3 = .ok (.invokevirtual 98, 3) := by decide +kernel
theorem dX12_seenAt_6 : decode cX12_seenAt 6 = .ok (.istore_n 3, 1) := by decide +kernel
theorem dX12_seenAt_7 : decode cX12_seenAt 7 = .ok (.iload_n 3, 1) := by decide +kernel
theorem dX12_seenAt_8 : decode cX12_seenAt 8 = .ok (.iconst (-1), 1) := by decide +kernel
theorem dX12_seenAt_9 : decode cX12_seenAt 9 = .ok (.if_icmp .eq 7, 3) := by decide +kernel
theorem dX12_seenAt_12 : decode cX12_seenAt 12 = .ok (.iload_n 3, 1) := by decide +kernel
theorem dX12_seenAt_13 : decode cX12_seenAt 13 = .ok (.goto 14, 3) := by decide +kernel
theorem dX12_seenAt_16 : decode cX12_seenAt 16 = .ok (.aload_n 0, 1) := by decide +kernel
theorem dX12_seenAt_17 : decode cX12_seenAt 17 = .ok (.iload_n 2, 1) := by decide +kernel
theorem dX12_seenAt_18 : decode cX12_seenAt 18 = .ok (.aload_n 0, 1) := by decide +kernel
theorem dX12_seenAt_19 : decode cX12_seenAt 19 = .ok (.iload_n 1, 1) := by decide +kernel
theorem dX12_seenAt_20 : decode cX12_seenAt 20 = .ok (.iconst 1, 1) := by decide +kernel
theorem dX12_seenAt_21 : decode cX12_seenAt 21 = .ok (.invokevirtual 94, 3) := by decide +kernel
theorem dX12_seenAt_24 : decode cX12_seenAt 24 = .ok (.invokevirtual 101, 3) := by decide +kernel
theorem dX12_seenAt_27 : decode cX12_seenAt 27 = .ok (.ireturn, 1) := by decide +kernel
theorem dX12_columnOf_0 : decode cX12_columnOf 0 = .ok (.aload_n 0, 1) := by decide +kernel
theorem dX12_columnOf_1 : decode cX12_columnOf 1 = .ok (.iload_n 1, 1) := by decide +kernel
theorem dX12_columnOf_2 : decode cX12_columnOf 2 = .ok (.bipush 6, 2) := by decide +kernel
theorem dX12_columnOf_4 : decode cX12_columnOf 4 = .ok (.iload_n 2, 1) := by decide +kernel
theorem dX12_columnOf_5 : decode cX12_columnOf 5 = .ok (.iadd, 1) := by decide +kernel
theorem dX12_columnOf_6 : decode cX12_columnOf 6 = .ok (.invokevirtual 104, 3) := by decide +kernel
theorem dX12_columnOf_9 : decode cX12_columnOf 9 = .ok (.bipush 10, 2) := by decide +kernel
theorem dX12_columnOf_11 : decode cX12_columnOf 11 = .ok (.irem, 1) := by decide +kernel
theorem dX12_columnOf_12 : decode cX12_columnOf 12 = .ok (.ireturn, 1) := by decide +kernel
theorem dX12_isDown_0 : decode cX12_isDown 0 = .ok (.aload_n 0, 1) := by decide +kernel
theorem dX12_isDown_1 : decode cX12_isDown 1 = .ok (.iload_n 1, 1) := by decide +kernel
theorem dX12_isDown_2 : decode cX12_isDown 2 = .ok (.bipush 6, 2) := by decide +kernel
theorem dX12_isDown_4 : decode cX12_isDown 4 = .ok (.iload_n 2, 1) := by decide +kernel
theorem dX12_isDown_5 : decode cX12_isDown 5 = .ok (.iadd, 1) := by decide +kernel
theorem dX12_isDown_6 : decode cX12_isDown 6 = .ok (.invokevirtual 104, 3) := by decide +kernel
theorem dX12_isDown_9 : decode cX12_isDown 9 = .ok (.bipush 10, 2) := by decide +kernel
theorem dX12_isDown_11 : decode cX12_isDown 11 = .ok (.if_icmp .lt 7, 3) := by decide +kernel
theorem dX12_isDown_14 : decode cX12_isDown 14 = .ok (.iconst 1, 1) := by decide +kernel
theorem dX12_isDown_15 : decode cX12_isDown 15 = .ok (.goto 4, 3) := by decide +kernel
theorem dX12_isDown_18 : decode cX12_isDown 18 = .ok (.iconst 0, 1) := by decide +kernel
theorem dX12_isDown_19 : decode cX12_isDown 19 = .ok (.ireturn, 1) := by decide +kernel
theorem dX12_isOf_0 : decode cX12_isOf 0 = .ok (.aload_n 0, 1) := by decide +kernel
theorem dX12_isOf_1 : decode cX12_isOf 1 = .ok (.getfield 13, 3) := by decide +kernel
theorem dX12_isOf_4 : decode cX12_isOf 4 = .ok (.iload_n 2, 1) := by decide +kernel
theorem dX12_isOf_5 : decode cX12_isOf 5 = .ok (.iconst 1, 1) := by decide +kernel
theorem dX12_isOf_6 : decode cX12_isOf 6 = .ok (.iadd, 1) := by decide +kernel
theorem dX12_isOf_7 : decode cX12_isOf 7 = .ok (.iaload, 1) := by decide +kernel
theorem dX12_isOf_8 : decode cX12_isOf 8 = .ok (.ifCond .ne 5, 3) := by decide +kernel
theorem dX12_isOf_11 : decode cX12_isOf 11 = .ok (.iconst 0, 1) := by decide +kernel
theorem dX12_isOf_12 : decode cX12_isOf 12 = .ok (.ireturn, 1) := by decide +kernel
theorem dX12_isOf_13 : decode cX12_isOf 13 = .ok (.aload_n 0, 1) := by decide +kernel
theorem dX12_isOf_14 : decode cX12_isOf 14 = .ok (.iload_n 1, 1) := by decide +kernel
theorem dX12_isOf_15 : decode cX12_isOf 15 = .ok (.bipush 9, 2) := by decide +kernel
theorem dX12_isOf_17 : decode cX12_isOf 17 = .ok (.invokevirtual 104, 3) := by decide +kernel
theorem dX12_isOf_20 : decode cX12_isOf 20 = .ok (.istore_n 3, 1) := by decide +kernel
theorem dX12_isOf_21 : decode cX12_isOf 21 = .ok (.iload_n 3, 1) := by decide +kernel
theorem dX12_isOf_22 : decode cX12_isOf 22 = .ok (.iconst (-1), 1) := by decide +kernel
theorem dX12_isOf_23 : decode cX12_isOf 23 = .ok (.if_icmp .ne 5, 3) := by decide +kernel
theorem dX12_isOf_26 : decode cX12_isOf 26 = .ok (.iconst 1, 1) := by decide +kernel
theorem dX12_isOf_27 : decode cX12_isOf 27 = .ok (.ireturn, 1) := by decide +kernel
theorem dX12_isOf_28 : decode cX12_isOf 28 = .ok (.aload_n 0, 1) := by decide +kernel
theorem dX12_isOf_29 : decode cX12_isOf 29 = .ok (.iload_n 1, 1) := by decide +kernel
theorem dX12_isOf_30 : decode cX12_isOf 30 = .ok (.bipush 10, 2) := by decide +kernel
theorem dX12_isOf_32 : decode cX12_isOf 32 = .ok (.invokevirtual 104, 3) := by decide +kernel
theorem dX12_isOf_35 : decode cX12_isOf 35 = .ok (.aload_n 0, 1) := by decide +kernel
theorem dX12_isOf_36 : decode cX12_isOf 36 = .ok (.getfield 13, 3) := by decide +kernel
theorem dX12_isOf_39 : decode cX12_isOf 39 = .ok (.iload_n 2, 1) := by decide +kernel
theorem dX12_isOf_40 : decode cX12_isOf 40 = .ok (.iconst 2, 1) := by decide +kernel
theorem dX12_isOf_41 : decode cX12_isOf 41 = .ok (.iadd, 1) := by decide +kernel
theorem dX12_isOf_42 : decode cX12_isOf 42 = .ok (.iload_n 3, 1) := by decide +kernel
theorem dX12_isOf_43 : decode cX12_isOf 43 = .ok (.iadd, 1) := by decide +kernel
theorem dX12_isOf_44 : decode cX12_isOf 44 = .ok (.iaload, 1) := by decide +kernel
theorem dX12_isOf_45 : decode cX12_isOf 45 = .ok (.aload_n 0, 1) := by decide +kernel
theorem dX12_isOf_46 : decode cX12_isOf 46 = .ok (.iload_n 1, 1) := by decide +kernel
theorem dX12_isOf_47 : decode cX12_isOf 47 = .ok (.bipush 11, 2) := by decide +kernel
theorem dX12_isOf_49 : decode cX12_isOf 49 = .ok (.invokevirtual 104, 3) := by decide +kernel
theorem dX12_isOf_52 : decode cX12_isOf 52 = .ok (.invokestatic 107, 3) := by decide +kernel
theorem dX12_isOf_55 : decode cX12_isOf 55 = .ok (.ireturn, 1) := by decide +kernel
theorem dX12_laysKey_0 : decode cX12_laysKey 0 = .ok (.iconst 0, 1) := by decide +kernel
theorem dX12_laysKey_1 : decode cX12_laysKey 1 = .ok (.istore_n 3, 1) := by decide +kernel
theorem dX12_laysKey_2 : decode cX12_laysKey 2 = .ok (.iload_n 3, 1) := by decide +kernel
theorem dX12_laysKey_3 : decode cX12_laysKey 3 = .ok (.iconst 3, 1) := by decide +kernel
theorem dX12_laysKey_4 : decode cX12_laysKey 4 = .ok (.if_icmp .ge 44, 3) := by decide +kernel
theorem dX12_laysKey_7 : decode cX12_laysKey 7 = .ok (.aload_n 0, 1) := by decide +kernel
theorem dX12_laysKey_8 : decode cX12_laysKey 8 = .ok (.getfield 25, 3) := by decide +kernel
theorem dX12_laysKey_11 : decode cX12_laysKey 11 = .ok (.iload_n 3, 1) := by decide +kernel
theorem dX12_laysKey_12 : decode cX12_laysKey 12 = .ok (.iload_n 3, 1) := by decide +kernel
theorem dX12_laysKey_13 : decode cX12_laysKey 13 = .ok (.aload_n 0, 1) := by decide +kernel
theorem dX12_laysKey_14 : decode cX12_laysKey 14 = .ok (.iload_n 1, 1) := by decide +kernel
theorem dX12_laysKey_15 : decode cX12_laysKey 15 = .ok (.iconst 5, 1) := by decide +kernel
theorem dX12_laysKey_16 : decode cX12_laysKey 16 = .ok (.invokevirtual 104, 3) := by decide +kernel
theorem dX12_laysKey_19 : decode cX12_laysKey 19 = .ok (.if_icmp .ge 21, 3) := by decide +kernel
theorem dX12_laysKey_22 : decode cX12_laysKey 22 = .ok (.aload_n 0, 1) := by decide +kernel
theorem dX12_laysKey_23 : decode cX12_laysKey 23 = .ok (.getfield 13, 3) := by decide +kernel
theorem dX12_laysKey_26 : decode cX12_laysKey 26 = .ok (.iload_n 2, 1) := by decide +kernel
theorem dX12_laysKey_27 : decode cX12_laysKey 27 = .ok (.iconst 2, 1) := by decide +kernel
theorem dX12_laysKey_28 : decode cX12_laysKey 28 = .ok (.iadd, 1) := by decide +kernel
theorem dX12_laysKey_29 : decode cX12_laysKey 29 = .ok (.aload_n 0, 1) := by decide +kernel
theorem dX12_laysKey_30 : decode cX12_laysKey 30 = .ok (.iload_n 1, 1) := by decide +kernel
theorem dX12_laysKey_31 : decode cX12_laysKey 31 = .ok (.iload_n 3, 1) := by decide +kernel
theorem dX12_laysKey_32 : decode cX12_laysKey 32 = .ok (.invokevirtual 111, 3) := by decide +kernel
theorem dX12_laysKey_35 : decode cX12_laysKey 35 = .ok (.iadd, 1) := by decide +kernel
theorem dX12_laysKey_36 : decode cX12_laysKey 36 = .ok (.iaload, 1) := by decide +kernel
theorem dX12_laysKey_37 : decode cX12_laysKey 37 = .ok (.goto 4, 3) := by decide +kernel
theorem dX12_laysKey_40 : decode cX12_laysKey 40 = .ok (.iconst 0, 1) := by decide +kernel
theorem dX12_laysKey_41 : decode cX12_laysKey 41 = .ok (.iastore, 1) := by decide +kernel
theorem dX12_laysKey_42 : decode cX12_laysKey 42 = .ok (.iinc 3 1, 3) := by decide +kernel
theorem dX12_laysKey_45 : decode cX12_laysKey 45 = .ok (.goto (-43), 3) := by decide +kernel
theorem dX12_laysKey_48 : decode cX12_laysKey 48 = .ok (.return_, 1) := by decide +kernel
theorem dX12_comparesKey_0 : decode cX12_comparesKey 0 = .ok (.iconst 0, 1) := by decide +kernel
theorem dX12_comparesKey_1 : decode cX12_comparesKey 1 = .ok (.istore_n 3, 1) := by decide +kernel
theorem dX12_comparesKey_2 : decode cX12_comparesKey 2 = .ok (.iload_n 3, 1) := by decide +kernel
theorem dX12_comparesKey_3 : decode cX12_comparesKey 3 = .ok (.aload_n 0, 1) := by decide +kernel
theorem dX12_comparesKey_4 : decode cX12_comparesKey 4 = .ok (.iload_n 1, 1) := by decide +kernel
theorem dX12_comparesKey_5 : decode cX12_comparesKey 5 = .ok (.iconst 5, 1) := by decide +kernel
theorem dX12_comparesKey_6 : decode cX12_comparesKey 6 = .ok (.invokevirtual 104, 3) := by decide +kernel
theorem dX12_comparesKey_9 : decode cX12_comparesKey 9 = .ok (.if_icmp .ge 49, 3) := by decide +kernel
theorem dX12_comparesKey_12 : decode cX12_comparesKey 12 = .ok (.aload_n 0, 1) := by decide +kernel
theorem dX12_comparesKey_13 : decode cX12_comparesKey 13 = .ok (.getfield 13, 3) := by decide +kernel
theorem dX12_comparesKey_16 : decode cX12_comparesKey 16 = .ok (.iload_n 2, 1) := by decide +kernel
theorem dX12_comparesKey_17 : decode cX12_comparesKey 17 = .ok (.iload_n 3, 1) := by decide +kernel
theorem dX12_comparesKey_18 : decode cX12_comparesKey 18 = .ok (.iadd, 1) := by decide +kernel
theorem dX12_comparesKey_19 : decode cX12_comparesKey 19 = .ok (.iaload, 1) := by decide +kernel
theorem dX12_comparesKey_20 : decode cX12_comparesKey 20 = .ok (.aload_n 0, 1) := by decide +kernel
theorem dX12_comparesKey_21 : decode cX12_comparesKey 21 = .ok (.getfield 25, 3) := by decide +kernel
theorem dX12_comparesKey_24 : decode cX12_comparesKey 24 = .ok (.iload_n 3, 1) := by decide +kernel
theorem dX12_comparesKey_25 : decode cX12_comparesKey 25 = .ok (.iaload, 1) := by decide +kernel
theorem dX12_comparesKey_26 : decode cX12_comparesKey 26 = .ok (.isub, 1) := by decide +kernel
theorem dX12_comparesKey_27 : decode cX12_comparesKey 27 = .ok (.istore 4, 2) := by decide +kernel
theorem dX12_comparesKey_29 : decode cX12_comparesKey 29 = .ok (.iload 4, 2) := by decide +kernel
theorem dX12_comparesKey_31 : decode cX12_comparesKey 31 = .ok (.ifCond .eq 21, 3) := by decide +kernel
theorem dX12_comparesKey_34 : decode cX12_comparesKey 34 = .ok (.aload_n 0, 1) := by decide +kernel
theorem dX12_comparesKey_35 : decode cX12_comparesKey 35 = .ok (.iload_n 1, 1) := by decide +kernel
theorem dX12_comparesKey_36 : decode cX12_comparesKey 36 = .ok (.iload_n 3, 1) := by decide +kernel
theorem dX12_comparesKey_37 : decode cX12_comparesKey 37 = .ok (.invokevirtual 114, 3) := by decide +kernel
theorem dX12_comparesKey_40 : decode cX12_comparesKey 40 = .ok (.ifCond .eq 9, 3) := by decide +kernel
theorem dX12_comparesKey_43 : decode cX12_comparesKey 43 = .ok (.iload 4, 2) := by decide +kernel
theorem dX12_comparesKey_45 : decode cX12_comparesKey 45 = .ok (.ineg, 1) := by decide +kernel
theorem dX12_comparesKey_46 : decode cX12_comparesKey 46 = .ok (.goto 5, 3) := by decide +kernel
theorem dX12_comparesKey_49 : decode cX12_comparesKey 49 = .ok (.iload 4, 2) := by decide +kernel
theorem dX12_comparesKey_51 : decode cX12_comparesKey 51 = .ok (.ireturn, 1) := by decide +kernel
theorem dX12_comparesKey_52 : decode cX12_comparesKey 52 = .ok (.iinc 3 1, 3) := by decide +kernel
theorem dX12_comparesKey_55 : decode cX12_comparesKey 55 = .ok (.goto (-53), 3) := by decide +kernel
theorem dX12_comparesKey_58 : decode cX12_comparesKey 58 = .ok (.iconst 0, 1) := by decide +kernel
theorem dX12_comparesKey_59 : decode cX12_comparesKey 59 = .ok (.ireturn, 1) := by decide +kernel
theorem dX12_entryAt_0 : decode cX12_entryAt 0 = .ok (.sipush 2140, 3) := by decide +kernel
theorem dX12_entryAt_3 : decode cX12_entryAt 3 = .ok (.sipush 1600, 3) := by decide +kernel
theorem dX12_entryAt_6 : decode cX12_entryAt 6 = .ok (.iload_n 1, 1) := by decide +kernel
theorem dX12_entryAt_7 : decode cX12_entryAt 7 = .ok (.imul, 1) := by decide +kernel
theorem dX12_entryAt_8 : decode cX12_entryAt 8 = .ok (.iadd, 1) := by decide +kernel
theorem dX12_entryAt_9 : decode cX12_entryAt 9 = .ok (.bipush 16, 2) := by decide +kernel
theorem dX12_entryAt_11 : decode cX12_entryAt 11 = .ok (.iadd, 1) := by decide +kernel
theorem dX12_entryAt_12 : decode cX12_entryAt 12 = .ok (.iconst 4, 1) := by decide +kernel
theorem dX12_entryAt_13 : decode cX12_entryAt 13 = .ok (.iload_n 2, 1) := by decide +kernel
theorem dX12_entryAt_14 : decode cX12_entryAt 14 = .ok (.imul, 1) := by decide +kernel
theorem dX12_entryAt_15 : decode cX12_entryAt 15 = .ok (.iadd, 1) := by decide +kernel
theorem dX12_entryAt_16 : decode cX12_entryAt 16 = .ok (.ireturn, 1) := by decide +kernel
theorem dX12_placeOf_0 : decode cX12_placeOf 0 = .ok (.iconst 0, 1) := by decide +kernel
theorem dX12_placeOf_1 : decode cX12_placeOf 1 = .ok (.istore_n 3, 1) := by decide +kernel
theorem dX12_placeOf_2 : decode cX12_placeOf 2 = .ok (.iload_n 3, 1) := by decide +kernel
theorem dX12_placeOf_3 : decode cX12_placeOf 3 = .ok (.aload_n 0, 1) := by decide +kernel
theorem dX12_placeOf_4 : decode cX12_placeOf 4 = .ok (.iload_n 1, 1) := by decide +kernel
theorem dX12_placeOf_5 : decode cX12_placeOf 5 = .ok (.bipush 13, 2) := by decide +kernel
theorem dX12_placeOf_7 : decode cX12_placeOf 7 = .ok (.invokevirtual 104, 3) := by decide +kernel
theorem dX12_placeOf_10 : decode cX12_placeOf 10 = .ok (.if_icmp .ge 51, 3) := by decide +kernel
theorem dX12_placeOf_13 : decode cX12_placeOf 13 = .ok (.aload_n 0, 1) := by decide +kernel
theorem dX12_placeOf_14 : decode cX12_placeOf 14 = .ok (.iload_n 1, 1) := by decide +kernel
theorem dX12_placeOf_15 : decode cX12_placeOf 15 = .ok (.aload_n 0, 1) := by decide +kernel
theorem dX12_placeOf_16 : decode cX12_placeOf 16 = .ok (.iload_n 1, 1) := by decide +kernel
theorem dX12_placeOf_17 : decode cX12_placeOf 17 = .ok (.iload_n 3, 1) := by decide +kernel
theorem dX12_placeOf_18 : decode cX12_placeOf 18 = .ok (.invokevirtual 118, 3) := by decide +kernel
theorem dX12_placeOf_21 : decode cX12_placeOf 21 = .ok (.iconst 1, 1) := by decide +kernel
theorem dX12_placeOf_22 : decode cX12_placeOf 22 = .ok (.iadd, 1) := by decide +kernel
theorem dX12_placeOf_23 : decode cX12_placeOf 23 = .ok (.invokevirtual 121, 3) := by decide +kernel
theorem dX12_placeOf_26 : decode cX12_placeOf 26 = .ok (.istore 4, 2) := by decide +kernel
theorem dX12_placeOf_28 : decode cX12_placeOf 28 = .ok (.iload 4, 2) := by decide +kernel
theorem dX12_placeOf_30 : decode cX12_placeOf 30 = .ok (.ifCond .gt 23, 3) := by decide +kernel
theorem dX12_placeOf_33 : decode cX12_placeOf 33 = .ok (.iload 4, 2) := by decide +kernel
theorem dX12_placeOf_35 : decode cX12_placeOf 35 = .ok (.ifCond .ne 20, 3) := by decide +kernel
theorem dX12_placeOf_38 : decode cX12_placeOf 38 = .ok (.aload_n 0, 1) := by decide +kernel
theorem dX12_placeOf_39 : decode cX12_placeOf 39 = .ok (.getfield 13, 3) := by decide +kernel
theorem dX12_placeOf_42 : decode cX12_placeOf 42 = .ok (.aload_n 0, 1) := by decide +kernel
theorem dX12_placeOf_43 : decode cX12_placeOf 43 = .ok (.iload_n 1, 1) := by decide +kernel
theorem dX12_placeOf_44 : decode cX12_placeOf 44 = .ok (.iload_n 3, 1) := by decide +kernel
theorem dX12_placeOf_45 : decode cX12_placeOf 45 = .ok (.invokevirtual 118, 3) := by decide +kernel
theorem dX12_placeOf_48 : decode cX12_placeOf 48 = .ok (.iaload, 1) := by decide +kernel
theorem dX12_placeOf_49 : decode cX12_placeOf 49 = .ok (.iload_n 2, 1) := by decide +kernel
theorem dX12_placeOf_50 : decode cX12_placeOf 50 = .ok (.if_icmp .lt 5, 3) := by decide +kernel
theorem dX12_placeOf_53 : decode cX12_placeOf 53 = .ok (.iload_n 3, 1) := by decide +kernel
theorem dX12_placeOf_54 : decode cX12_placeOf 54 = .ok (.ireturn, 1) := by decide +kernel
theorem dX12_placeOf_55 : decode cX12_placeOf 55 = .ok (.iinc 3 1, 3) := by decide +kernel
theorem dX12_placeOf_58 : decode cX12_placeOf 58 = .ok (.goto (-56), 3) := by decide +kernel
theorem dX12_placeOf_61 : decode cX12_placeOf 61 = .ok (.iload_n 3, 1) := by decide +kernel
theorem dX12_placeOf_62 : decode cX12_placeOf 62 = .ok (.ireturn, 1) := by decide +kernel
theorem dX12_isAt_0 : decode cX12_isAt 0 = .ok (.iload_n 2, 1) := by decide +kernel
theorem dX12_isAt_1 : decode cX12_isAt 1 = .ok (.aload_n 0, 1) := by decide +kernel
theorem dX12_isAt_2 : decode cX12_isAt 2 = .ok (.iload_n 1, 1) := by decide +kernel
theorem dX12_isAt_3 : decode cX12_isAt 3 = .ok (.bipush 13, 2) := by decide +kernel
theorem dX12_isAt_5 : decode cX12_isAt 5 = .ok (.invokevirtual 104, 3) := by decide +kernel
theorem dX12_isAt_8 : decode cX12_isAt 8 = .ok (.if_icmp .ge 38, 3) := by decide +kernel
theorem dX12_isAt_11 : decode cX12_isAt 11 = .ok (.aload_n 0, 1) := by decide +kernel
theorem dX12_isAt_12 : decode cX12_isAt 12 = .ok (.getfield 13, 3) := by decide +kernel
theorem dX12_isAt_15 : decode cX12_isAt 15 = .ok (.aload_n 0, 1) := by decide +kernel
theorem dX12_isAt_16 : decode cX12_isAt 16 = .ok (.iload_n 1, 1) := by decide +kernel
theorem dX12_isAt_17 : decode cX12_isAt 17 = .ok (.iload_n 2, 1) := by decide +kernel
theorem dX12_isAt_18 : decode cX12_isAt 18 = .ok (.invokevirtual 118, 3) := by decide +kernel
theorem dX12_isAt_21 : decode cX12_isAt 21 = .ok (.iaload, 1) := by decide +kernel
theorem dX12_isAt_22 : decode cX12_isAt 22 = .ok (.iload_n 3, 1) := by decide +kernel
theorem dX12_isAt_23 : decode cX12_isAt 23 = .ok (.if_icmp .ne 23, 3) := by decide +kernel
theorem dX12_isAt_26 : decode cX12_isAt 26 = .ok (.aload_n 0, 1) := by decide +kernel
theorem dX12_isAt_27 : decode cX12_isAt 27 = .ok (.iload_n 1, 1) := by decide +kernel
theorem dX12_isAt_28 : decode cX12_isAt 28 = .ok (.aload_n 0, 1) := by decide +kernel
theorem dX12_isAt_29 : decode cX12_isAt 29 = .ok (.iload_n 1, 1) := by decide +kernel
theorem dX12_isAt_30 : decode cX12_isAt 30 = .ok (.iload_n 2, 1) := by decide +kernel
theorem dX12_isAt_31 : decode cX12_isAt 31 = .ok (.invokevirtual 118, 3) := by decide +kernel
theorem dX12_isAt_34 : decode cX12_isAt 34 = .ok (.iconst 1, 1) := by decide +kernel
theorem dX12_isAt_35 : decode cX12_isAt 35 = .ok (.iadd, 1) := by decide +kernel
theorem dX12_isAt_36 : decode cX12_isAt 36 = .ok (.invokevirtual 121, 3) := by decide +kernel
theorem dX12_isAt_39 : decode cX12_isAt 39 = .ok (.ifCond .ne 7, 3) := by decide +kernel
theorem dX12_isAt_42 : decode cX12_isAt 42 = .ok (.iconst 1, 1) := by decide +kernel
theorem dX12_isAt_43 : decode cX12_isAt 43 = .ok (.goto 4, 3) := by decide +kernel
theorem dX12_isAt_46 : decode cX12_isAt 46 = .ok (.iconst 0, 1) := by decide +kernel
theorem dX12_isAt_47 : decode cX12_isAt 47 = .ok (.ireturn, 1) := by decide +kernel
theorem dX12_does_0 : decode cX12_does 0 = .ok (.aload_n 0, 1) := by decide +kernel
theorem dX12_does_1 : decode cX12_does 1 = .ok (.iload_n 1, 1) := by decide +kernel
theorem dX12_does_2 : decode cX12_does 2 = .ok (.iload_n 3, 1) := by decide +kernel
theorem dX12_does_3 : decode cX12_does 3 = .ok (.invokevirtual 124, 3) := by decide +kernel
theorem dX12_does_6 : decode cX12_does 6 = .ok (.istore 4, 2) := by decide +kernel
theorem dX12_does_8 : decode cX12_does 8 = .ok (.aload_n 0, 1) := by decide +kernel
theorem dX12_does_9 : decode cX12_does 9 = .ok (.iload_n 1, 1) := by decide +kernel
theorem dX12_does_10 : decode cX12_does 10 = .ok (.iload 4, 2) := by decide +kernel
theorem dX12_does_12 : decode cX12_does 12 = .ok (.iload_n 3, 1) := by decide +kernel
theorem dX12_does_13 : decode cX12_does 13 = .ok (.invokevirtual 127, 3) := by decide +kernel
theorem dX12_does_16 : decode cX12_does 16 = .ok (.istore 5, 2) := by decide +kernel
theorem dX12_does_18 : decode cX12_does 18 = .ok (.aload_n 0, 1) := by decide +kernel
theorem dX12_does_19 : decode cX12_does 19 = .ok (.iload_n 1, 1) := by decide +kernel
theorem dX12_does_20 : decode cX12_does 20 = .ok (.bipush 13, 2) := by decide +kernel
theorem dX12_does_22 : decode cX12_does 22 = .ok (.invokevirtual 104, 3) := by decide +kernel
theorem dX12_does_25 : decode cX12_does 25 = .ok (.istore 6, 2) := by decide +kernel
theorem dX12_does_27 : decode cX12_does 27 = .ok (.iload_n 2, 1) := by decide +kernel
theorem dX12_does_28 : decode cX12_does 28 = .ok (.iconst 1, 1) := by decide +kernel
theorem dX12_does_29 : decode cX12_does 29 = .ok (.if_icmp .ne 99, 3) := by decide +kernel
theorem dX12_does_32 : decode cX12_does 32 = .ok (.iload 5, 2) := by decide +kernel
theorem dX12_does_34 : decode cX12_does 34 = .ok (.ifCond .ne 94, 3) := by decide +kernel
theorem dX12_does_37 : decode cX12_does 37 = .ok (.iload 6, 2) := by decide +kernel
theorem dX12_does_39 : decode cX12_does 39 = .ok (.istore 7, 2) := by decide +kernel
theorem dX12_does_41 : decode cX12_does 41 = .ok (.iload 7, 2) := by decide +kernel
theorem dX12_does_43 : decode cX12_does 43 = .ok (.iload 4, 2) := by decide +kernel
theorem dX12_does_45 : decode cX12_does 45 = .ok (.if_icmp .le 37, 3) := by decide +kernel
theorem dX12_does_48 : decode cX12_does 48 = .ok (.aload_n 0, 1) := by decide +kernel
theorem dX12_does_49 : decode cX12_does 49 = .ok (.getfield 13, 3) := by decide +kernel
theorem dX12_does_52 : decode cX12_does 52 = .ok (.aload_n 0, 1) := by decide +kernel
theorem dX12_does_53 : decode cX12_does 53 = .ok (.iload_n 1, 1) := by decide +kernel
