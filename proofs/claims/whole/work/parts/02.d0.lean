theorem dX0_init_0 : decode cX0_init 0 = .ok (.aload_n 0, 1) := by decide +kernel
theorem dX0_init_1 : decode cX0_init 1 = .ok (.invokespecial 3, 3) := by decide +kernel
theorem dX0_init_4 : decode cX0_init 4 = .ok (.return_, 1) := by decide +kernel
theorem dX0_tell_0 : decode cX0_tell 0 = .ok (.aload_n 0, 1) := by decide +kernel
theorem dX0_tell_1 : decode cX0_tell 1 = .ok (.iload_n 1, 1) := by decide +kernel
theorem dX0_tell_2 : decode cX0_tell 2 = .ok (.putfield 9, 3) := by decide +kernel
theorem dX0_tell_5 : decode cX0_tell 5 = .ok (.aload_n 0, 1) := by decide +kernel
theorem dX0_tell_6 : decode cX0_tell 6 = .ok (.iload_n 2, 1) := by decide +kernel
theorem dX0_tell_7 : decode cX0_tell 7 = .ok (.putfield 15, 3) := by decide +kernel
theorem dX0_tell_10 : decode cX0_tell 10 = .ok (.aload_n 0, 1) := by decide +kernel
theorem dX0_tell_11 : decode cX0_tell 11 = .ok (.iload_n 3, 1) := by decide +kernel
theorem dX0_tell_12 : decode cX0_tell 12 = .ok (.putfield 18, 3) := by decide +kernel
theorem dX0_tell_15 : decode cX0_tell 15 = .ok (.return_, 1) := by decide +kernel
theorem dX0_copyFrom_0 : decode cX0_copyFrom 0 = .ok (.aload_n 0, 1) := by decide +kernel
theorem dX0_copyFrom_1 : decode cX0_copyFrom 1 = .ok (.aload_n 1, 1) := by decide +kernel
theorem dX0_copyFrom_2 : decode cX0_copyFrom 2 = .ok (.getfield 9, 3) := by decide +kernel
theorem dX0_copyFrom_5 : decode cX0_copyFrom 5 = .ok (.aload_n 1, 1) := by decide +kernel
theorem dX0_copyFrom_6 : decode cX0_copyFrom 6 = .ok (.getfield 15, 3) := by decide +kernel
theorem dX0_copyFrom_9 : decode cX0_copyFrom 9 = .ok (.aload_n 1, 1) := by decide +kernel
theorem dX0_copyFrom_10 : decode cX0_copyFrom 10 = .ok (.getfield 18, 3) := by decide +kernel
theorem dX0_copyFrom_13 : decode cX0_copyFrom 13 = .ok (.invokevirtual 21, 3) := by decide +kernel
theorem dX0_copyFrom_16 : decode cX0_copyFrom 16 = .ok (.return_, 1) := by decide +kernel
theorem dX0_isAs_0 : decode cX0_isAs 0 = .ok (.aload_n 0, 1) := by decide +kernel
theorem dX0_isAs_1 : decode cX0_isAs 1 = .ok (.getfield 9, 3) := by decide +kernel
theorem dX0_isAs_4 : decode cX0_isAs 4 = .ok (.aload_n 1, 1) := by decide +kernel
theorem dX0_isAs_5 : decode cX0_isAs 5 = .ok (.getfield 9, 3) := by decide +kernel
theorem dX0_isAs_8 : decode cX0_isAs 8 = .ok (.if_icmp .ne 29, 3) := by decide +kernel
theorem dX0_isAs_11 : decode cX0_isAs 11 = .ok (.aload_n 0, 1) := by decide +kernel
theorem dX0_isAs_12 : decode cX0_isAs 12 = .ok (.getfield 15, 3) := by decide +kernel
theorem dX0_isAs_15 : decode cX0_isAs 15 = .ok (.aload_n 1, 1) := by decide +kernel
theorem dX0_isAs_16 : decode cX0_isAs 16 = .ok (.getfield 15, 3) := by decide +kernel
theorem dX0_isAs_19 : decode cX0_isAs 19 = .ok (.if_icmp .ne 18, 3) := by decide +kernel
theorem dX0_isAs_22 : decode cX0_isAs 22 = .ok (.aload_n 0, 1) := by decide +kernel
theorem dX0_isAs_23 : decode cX0_isAs 23 = .ok (.getfield 18, 3) := by decide +kernel
theorem dX0_isAs_26 : decode cX0_isAs 26 = .ok (.aload_n 1, 1) := by decide +kernel
theorem dX0_isAs_27 : decode cX0_isAs 27 = .ok (.getfield 18, 3) := by decide +kernel
theorem dX0_isAs_30 : decode cX0_isAs 30 = .ok (.if_icmp .ne 7, 3) := by decide +kernel
theorem dX0_isAs_33 : decode cX0_isAs 33 = .ok (.iconst 1, 1) := by decide +kernel
theorem dX0_isAs_34 : decode cX0_isAs 34 = .ok (.goto 4, 3) := by decide +kernel
theorem dX0_isAs_37 : decode cX0_isAs 37 = .ok (.iconst 0, 1) := by decide +kernel
theorem dX0_isAs_38 : decode cX0_isAs 38 = .ok (.ireturn, 1) := by decide +kernel
theorem dX0_holdsFor_0 : decode cX0_holdsFor 0 = .ok (.aload_n 0, 1) := by decide +kernel
theorem dX0_holdsFor_1 : decode cX0_holdsFor 1 = .ok (.iload_n 1, 1) := by decide +kernel
theorem dX0_holdsFor_2 : decode cX0_holdsFor 2 = .ok (.aload_n 0, 1) := by decide +kernel
theorem dX0_holdsFor_3 : decode cX0_holdsFor 3 = .ok (.getfield 9, 3) := by decide +kernel
theorem dX0_holdsFor_6 : decode cX0_holdsFor 6 = .ok (.invokestatic 25, 3) := by decide +kernel
theorem dX0_holdsFor_9 : decode cX0_holdsFor 9 = .ok (.invokevirtual 29, 3) := by decide +kernel
theorem dX0_holdsFor_12 : decode cX0_holdsFor 12 = .ok (.ireturn, 1) := by decide +kernel
theorem dX0_fits_0 : decode cX0_fits 0 = .ok (.aload_n 0, 1) := by decide +kernel
theorem dX0_fits_1 : decode cX0_fits 1 = .ok (.getfield 15, 3) := by decide +kernel
theorem dX0_fits_4 : decode cX0_fits 4 = .ok (.tableswitch 70 0 2 #[28, 42, 56], 28) := by decide +kernel
theorem dX0_fits_32 : decode cX0_fits 32 = .ok (.iload_n 1, 1) := by decide +kernel
theorem dX0_fits_33 : decode cX0_fits 33 = .ok (.aload_n 0, 1) := by decide +kernel
theorem dX0_fits_34 : decode cX0_fits 34 = .ok (.getfield 18, 3) := by decide +kernel
theorem dX0_fits_37 : decode cX0_fits 37 = .ok (.if_icmp .ne 7, 3) := by decide +kernel
theorem dX0_fits_40 : decode cX0_fits 40 = .ok (.iconst 1, 1) := by decide +kernel
theorem dX0_fits_41 : decode cX0_fits 41 = .ok (.goto 4, 3) := by decide +kernel
theorem dX0_fits_44 : decode cX0_fits 44 = .ok (.iconst 0, 1) := by decide +kernel
theorem dX0_fits_45 : decode cX0_fits 45 = .ok (.ireturn, 1) := by decide +kernel
theorem dX0_fits_46 : decode cX0_fits 46 = .ok (.iload_n 1, 1) := by decide +kernel
theorem dX0_fits_47 : decode cX0_fits 47 = .ok (.aload_n 0, 1) := by decide +kernel
theorem dX0_fits_48 : decode cX0_fits 48 = .ok (.getfield 18, 3) := by decide +kernel
theorem dX0_fits_51 : decode cX0_fits 51 = .ok (.if_icmp .eq 7, 3) := by decide +kernel
theorem dX0_fits_54 : decode cX0_fits 54 = .ok (.iconst 1, 1) := by decide +kernel
theorem dX0_fits_55 : decode cX0_fits 55 = .ok (.goto 4, 3) := by decide +kernel
theorem dX0_fits_58 : decode cX0_fits 58 = .ok (.iconst 0, 1) := by decide +kernel
theorem dX0_fits_59 : decode cX0_fits 59 = .ok (.ireturn, 1) := by decide +kernel
theorem dX0_fits_60 : decode cX0_fits 60 = .ok (.iload_n 1, 1) := by decide +kernel
theorem dX0_fits_61 : decode cX0_fits 61 = .ok (.aload_n 0, 1) := by decide +kernel
theorem dX0_fits_62 : decode cX0_fits 62 = .ok (.getfield 18, 3) := by decide +kernel
theorem dX0_fits_65 : decode cX0_fits 65 = .ok (.if_icmp .ge 7, 3) := by decide +kernel
theorem dX0_fits_68 : decode cX0_fits 68 = .ok (.iconst 1, 1) := by decide +kernel
theorem dX0_fits_69 : decode cX0_fits 69 = .ok (.goto 4, 3) := by decide +kernel
theorem dX0_fits_72 : decode cX0_fits 72 = .ok (.iconst 0, 1) := by decide +kernel
theorem dX0_fits_73 : decode cX0_fits 73 = .ok (.ireturn, 1) := by decide +kernel
theorem dX0_fits_74 : decode cX0_fits 74 = .ok (.iload_n 1, 1) := by decide +kernel
theorem dX0_fits_75 : decode cX0_fits 75 = .ok (.aload_n 0, 1) := by decide +kernel
theorem dX0_fits_76 : decode cX0_fits 76 = .ok (.getfield 18, 3) := by decide +kernel
theorem dX0_fits_79 : decode cX0_fits 79 = .ok (.if_icmp .le 7, 3) := by decide +kernel
theorem dX0_fits_82 : decode cX0_fits 82 = .ok (.iconst 1, 1) := by decide +kernel
theorem dX0_fits_83 : decode cX0_fits 83 = .ok (.goto 4, 3) := by decide +kernel
theorem dX0_fits_86 : decode cX0_fits 86 = .ok (.iconst 0, 1) := by decide +kernel
theorem dX0_fits_87 : decode cX0_fits 87 = .ok (.ireturn, 1) := by decide +kernel
theorem dX1_init_0 : decode cX1_init 0 = .ok (.aload_n 0, 1) := by decide +kernel
theorem dX1_init_1 : decode cX1_init 1 = .ok (.invokespecial 3, 3) := by decide +kernel
theorem dX1_init_4 : decode cX1_init 4 = .ok (.aload_n 0, 1) := by decide +kernel
theorem dX1_init_5 : decode cX1_init 5 = .ok (.new 9, 3) := by decide +kernel
theorem dX1_init_8 : decode cX1_init 8 = .ok (.dup, 1) := by decide +kernel
theorem dX1_init_9 : decode cX1_init 9 = .ok (.invokespecial 11, 3) := by decide +kernel
theorem dX1_init_12 : decode cX1_init 12 = .ok (.putfield 12, 3) := by decide +kernel
theorem dX1_init_15 : decode cX1_init 15 = .ok (.aload_n 0, 1) := by decide +kernel
theorem dX1_init_16 : decode cX1_init 16 = .ok (.new 18, 3) := by decide +kernel
theorem dX1_init_19 : decode cX1_init 19 = .ok (.dup, 1) := by decide +kernel
theorem dX1_init_20 : decode cX1_init 20 = .ok (.invokespecial 20, 3) := by decide +kernel
theorem dX1_init_23 : decode cX1_init 23 = .ok (.putfield 21, 3) := by decide +kernel
theorem dX1_init_26 : decode cX1_init 26 = .ok (.return_, 1) := by decide +kernel
theorem dX1_clearAll_0 : decode cX1_clearAll 0 = .ok (.aload_n 0, 1) := by decide +kernel
theorem dX1_clearAll_1 : decode cX1_clearAll 1 = .ok (.getfield 12, 3) := by decide +kernel
theorem dX1_clearAll_4 : decode cX1_clearAll 4 = .ok (.invokevirtual 25, 3) := by decide +kernel
theorem dX1_clearAll_7 : decode cX1_clearAll 7 = .ok (.aload_n 0, 1) := by decide +kernel
theorem dX1_clearAll_8 : decode cX1_clearAll 8 = .ok (.iconst 0, 1) := by decide +kernel
theorem dX1_clearAll_9 : decode cX1_clearAll 9 = .ok (.putfield 28, 3) := by decide +kernel
theorem dX1_clearAll_12 : decode cX1_clearAll 12 = .ok (.aload_n 0, 1) := by decide +kernel
theorem dX1_clearAll_13 : decode cX1_clearAll 13 = .ok (.iconst 0, 1) := by decide +kernel
theorem dX1_clearAll_14 : decode cX1_clearAll 14 = .ok (.putfield 32, 3) := by decide +kernel
theorem dX1_clearAll_17 : decode cX1_clearAll 17 = .ok (.aload_n 0, 1) := by decide +kernel
theorem dX1_clearAll_18 : decode cX1_clearAll 18 = .ok (.getfield 21, 3) := by decide +kernel
theorem dX1_clearAll_21 : decode cX1_clearAll 21 = .ok (.iconst 0, 1) := by decide +kernel
theorem dX1_clearAll_22 : decode cX1_clearAll 22 = .ok (.iconst 0, 1) := by decide +kernel
theorem dX1_clearAll_23 : decode cX1_clearAll 23 = .ok (.iconst 0, 1) := by decide +kernel
theorem dX1_clearAll_24 : decode cX1_clearAll 24 = .ok (.invokevirtual 35, 3) := by decide +kernel
theorem dX1_clearAll_27 : decode cX1_clearAll 27 = .ok (.return_, 1) := by decide +kernel
theorem dX1_copyFrom_0 : decode cX1_copyFrom 0 = .ok (.aload_n 0, 1) := by decide +kernel
theorem dX1_copyFrom_1 : decode cX1_copyFrom 1 = .ok (.getfield 12, 3) := by decide +kernel
theorem dX1_copyFrom_4 : decode cX1_copyFrom 4 = .ok (.aload_n 1, 1) := by decide +kernel
theorem dX1_copyFrom_5 : decode cX1_copyFrom 5 = .ok (.getfield 12, 3) := by decide +kernel
theorem dX1_copyFrom_8 : decode cX1_copyFrom 8 = .ok (.invokevirtual 39, 3) := by decide +kernel
theorem dX1_copyFrom_11 : decode cX1_copyFrom 11 = .ok (.aload_n 0, 1) := by decide +kernel
theorem dX1_copyFrom_12 : decode cX1_copyFrom 12 = .ok (.aload_n 1, 1) := by decide +kernel
theorem dX1_copyFrom_13 : decode cX1_copyFrom 13 = .ok (.getfield 28, 3) := by decide +kernel
theorem dX1_copyFrom_16 : decode cX1_copyFrom 16 = .ok (.putfield 28, 3) := by decide +kernel
theorem dX1_copyFrom_19 : decode cX1_copyFrom 19 = .ok (.aload_n 0, 1) := by decide +kernel
theorem dX1_copyFrom_20 : decode cX1_copyFrom 20 = .ok (.aload_n 1, 1) := by decide +kernel
theorem dX1_copyFrom_21 : decode cX1_copyFrom 21 = .ok (.getfield 32, 3) := by decide +kernel
theorem dX1_copyFrom_24 : decode cX1_copyFrom 24 = .ok (.putfield 32, 3) := by decide +kernel
theorem dX1_copyFrom_27 : decode cX1_copyFrom 27 = .ok (.aload_n 0, 1) := by decide +kernel
theorem dX1_copyFrom_28 : decode cX1_copyFrom 28 = .ok (.getfield 21, 3) := by decide +kernel
theorem dX1_copyFrom_31 : decode cX1_copyFrom 31 = .ok (.aload_n 1, 1) := by decide +kernel
theorem dX1_copyFrom_32 : decode cX1_copyFrom 32 = .ok (.getfield 21, 3) := by decide +kernel
theorem dX1_copyFrom_35 : decode cX1_copyFrom 35 = .ok (.invokevirtual 43, 3) := by decide +kernel
theorem dX1_copyFrom_38 : decode cX1_copyFrom 38 = .ok (.return_, 1) := by decide +kernel
theorem dX1_entryOf_0 : decode cX1_entryOf 0 = .ok (.iload_n 1, 1) := by decide +kernel
theorem dX1_entryOf_1 : decode cX1_entryOf 1 = .ok (.iconst (-1), 1) := by decide +kernel
theorem dX1_entryOf_2 : decode cX1_entryOf 2 = .ok (.if_icmp .eq 21, 3) := by decide +kernel
theorem dX1_entryOf_5 : decode cX1_entryOf 5 = .ok (.aload_n 0, 1) := by decide +kernel
theorem dX1_entryOf_6 : decode cX1_entryOf 6 = .ok (.getfield 32, 3) := by decide +kernel
theorem dX1_entryOf_9 : decode cX1_entryOf 9 = .ok (.ifCond .eq 16, 3) := by decide +kernel
theorem dX1_entryOf_12 : decode cX1_entryOf 12 = .ok (.aload_n 0, 1) := by decide +kernel
theorem dX1_entryOf_13 : decode cX1_entryOf 13 = .ok (.getfield 21, 3) := by decide +kernel
theorem dX1_entryOf_16 : decode cX1_entryOf 16 = .ok (.iload_n 1, 1) := by decide +kernel
theorem dX1_entryOf_17 : decode cX1_entryOf 17 = .ok (.invokevirtual 46, 3) := by decide +kernel
theorem dX1_entryOf_20 : decode cX1_entryOf 20 = .ok (.ifCond .ne 5, 3) := by decide +kernel
theorem dX1_entryOf_23 : decode cX1_entryOf 23 = .ok (.iconst (-1), 1) := by decide +kernel
theorem dX1_entryOf_24 : decode cX1_entryOf 24 = .ok (.ireturn, 1) := by decide +kernel
theorem dX1_entryOf_25 : decode cX1_entryOf 25 = .ok (.aload_n 0, 1) := by decide +kernel
theorem dX1_entryOf_26 : decode cX1_entryOf 26 = .ok (.getfield 12, 3) := by decide +kernel
theorem dX1_entryOf_29 : decode cX1_entryOf 29 = .ok (.iload_n 1, 1) := by decide +kernel
theorem dX1_entryOf_30 : decode cX1_entryOf 30 = .ok (.invokevirtual 50, 3) := by decide +kernel
theorem dX1_entryOf_33 : decode cX1_entryOf 33 = .ok (.iload_n 2, 1) := by decide +kernel
theorem dX1_entryOf_34 : decode cX1_entryOf 34 = .ok (.invokestatic 54, 3) := by decide +kernel
theorem dX1_entryOf_37 : decode cX1_entryOf 37 = .ok (.ireturn, 1) := by decide +kernel
theorem dX1_partOfEntry_0 : decode cX1_partOfEntry 0 = .ok (.iload_n 2, 1) := by decide +kernel
theorem dX1_partOfEntry_1 : decode cX1_partOfEntry 1 = .ok (.ifCond .ne 8, 3) := by decide +kernel
theorem dX1_partOfEntry_4 : decode cX1_partOfEntry 4 = .ok (.iload_n 1, 1) := by decide +kernel
theorem dX1_partOfEntry_5 : decode cX1_partOfEntry 5 = .ok (.invokestatic 60, 3) := by decide +kernel
theorem dX1_partOfEntry_8 : decode cX1_partOfEntry 8 = .ok (.ireturn, 1) := by decide +kernel
theorem dX1_partOfEntry_9 : decode cX1_partOfEntry 9 = .ok (.iload_n 2, 1) := by decide +kernel
theorem dX1_partOfEntry_10 : decode cX1_partOfEntry 10 = .ok (.aload_n 0, 1) := by decide +kernel
theorem dX1_partOfEntry_11 : decode cX1_partOfEntry 11 = .ok (.getfield 12, 3) := by decide +kernel
theorem dX1_partOfEntry_14 : decode cX1_partOfEntry 14 = .ok (.getfield 63, 3) := by decide +kernel
theorem dX1_partOfEntry_17 : decode cX1_partOfEntry 17 = .ok (.if_icmp .gt 20, 3) := by decide +kernel
theorem dX1_partOfEntry_20 : decode cX1_partOfEntry 20 = .ok (.aload_n 0, 1) := by decide +kernel
theorem dX1_partOfEntry_21 : decode cX1_partOfEntry 21 = .ok (.getfield 12, 3) := by decide +kernel
theorem dX1_partOfEntry_24 : decode cX1_partOfEntry 24 = .ok (.iload_n 1, 1) := by decide +kernel
theorem dX1_partOfEntry_25 : decode cX1_partOfEntry 25 = .ok (.invokestatic 67, 3) := by decide +kernel
theorem dX1_partOfEntry_28 : decode cX1_partOfEntry 28 = .ok (.iload_n 2, 1) := by decide +kernel
theorem dX1_partOfEntry_29 : decode cX1_partOfEntry 29 = .ok (.iconst 1, 1) := by decide +kernel
theorem dX1_partOfEntry_30 : decode cX1_partOfEntry 30 = .ok (.isub, 1) := by decide +kernel
theorem dX1_partOfEntry_31 : decode cX1_partOfEntry 31 = .ok (.invokevirtual 70, 3) := by decide +kernel
theorem dX1_partOfEntry_34 : decode cX1_partOfEntry 34 = .ok (.goto 4, 3) := by decide +kernel
theorem dX1_partOfEntry_37 : decode cX1_partOfEntry 37 = .ok (.iconst (-1), 1) := by decide +kernel
theorem dX1_partOfEntry_38 : decode cX1_partOfEntry 38 = .ok (.ireturn, 1) := by decide +kernel
theorem dX1_told_0 : decode cX1_told 0 = .ok (.iload_n 1, 1) := by decide +kernel
theorem dX1_told_1 : decode cX1_told 1 = .ok (.tableswitch 103 7 14 #[47, 60, 103, 103, 103, 68, 87, 95], 47) := by decide +kernel
theorem dX1_told_48 : decode cX1_told 48 = .ok (.aload_n 0, 1) := by decide +kernel
theorem dX1_told_49 : decode cX1_told 49 = .ok (.getfield 28, 3) := by decide +kernel
theorem dX1_told_52 : decode cX1_told 52 = .ok (.ifCond .eq 7, 3) := by decide +kernel
theorem dX1_told_55 : decode cX1_told 55 = .ok (.iconst 1, 1) := by decide +kernel
theorem dX1_told_56 : decode cX1_told 56 = .ok (.goto 4, 3) := by decide +kernel
theorem dX1_told_59 : decode cX1_told 59 = .ok (.iconst 0, 1) := by decide +kernel
theorem dX1_told_60 : decode cX1_told 60 = .ok (.ireturn, 1) := by decide +kernel
theorem dX1_told_61 : decode cX1_told 61 = .ok (.aload_n 0, 1) := by decide +kernel
theorem dX1_told_62 : decode cX1_told 62 = .ok (.getfield 12, 3) := by decide +kernel
theorem dX1_told_65 : decode cX1_told 65 = .ok (.getfield 63, 3) := by decide +kernel
theorem dX1_told_68 : decode cX1_told 68 = .ok (.ireturn, 1) := by decide +kernel
theorem dX1_told_69 : decode cX1_told 69 = .ok (.aload_n 0, 1) := by decide +kernel
theorem dX1_told_70 : decode cX1_told 70 = .ok (.getfield 32, 3) := by decide +kernel
theorem dX1_told_73 : decode cX1_told 73 = .ok (.ifCond .eq 13, 3) := by decide +kernel
theorem dX1_told_76 : decode cX1_told 76 = .ok (.aload_n 0, 1) := by decide +kernel
theorem dX1_told_77 : decode cX1_told 77 = .ok (.getfield 21, 3) := by decide +kernel
theorem dX1_told_80 : decode cX1_told 80 = .ok (.getfield 73, 3) := by decide +kernel
theorem dX1_told_83 : decode cX1_told 83 = .ok (.goto 4, 3) := by decide +kernel
theorem dX1_told_86 : decode cX1_told 86 = .ok (.iconst (-1), 1) := by decide +kernel
theorem dX1_told_87 : decode cX1_told 87 = .ok (.ireturn, 1) := by decide +kernel
theorem dX1_told_88 : decode cX1_told 88 = .ok (.aload_n 0, 1) := by decide +kernel
theorem dX1_told_89 : decode cX1_told 89 = .ok (.getfield 21, 3) := by decide +kernel
theorem dX1_told_92 : decode cX1_told 92 = .ok (.getfield 76, 3) := by decide +kernel
theorem dX1_told_95 : decode cX1_told 95 = .ok (.ireturn, 1) := by decide +kernel
theorem dX1_told_96 : decode cX1_told 96 = .ok (.aload_n 0, 1) := by decide +kernel
theorem dX1_told_97 : decode cX1_told 97 = .ok (.getfield 21, 3) := by decide +kernel
theorem dX1_told_100 : decode cX1_told 100 = .ok (.getfield 79, 3) := by decide +kernel
theorem dX1_told_103 : decode cX1_told 103 = .ok (.ireturn, 1) := by decide +kernel
theorem dX1_told_104 : decode cX1_told 104 = .ok (.aload_n 0, 1) := by decide +kernel
theorem dX1_told_105 : decode cX1_told 105 = .ok (.iload_n 1, 1) := by decide +kernel
theorem dX1_told_106 : decode cX1_told 106 = .ok (.bipush 9, 2) := by decide +kernel
theorem dX1_told_108 : decode cX1_told 108 = .ok (.isub, 1) := by decide +kernel
theorem dX1_told_109 : decode cX1_told 109 = .ok (.invokevirtual 82, 3) := by decide +kernel
theorem dX1_told_112 : decode cX1_told 112 = .ok (.ireturn, 1) := by decide +kernel
theorem dX1_toldColumn_0 : decode cX1_toldColumn 0 = .ok (.iload_n 1, 1) := by decide +kernel
theorem dX1_toldColumn_1 : decode cX1_toldColumn 1 = .ok (.ifCond .lt 14, 3) := by decide +kernel
theorem dX1_toldColumn_4 : decode cX1_toldColumn 4 = .ok (.iload_n 1, 1) := by decide +kernel
theorem dX1_toldColumn_5 : decode cX1_toldColumn 5 = .ok (.aload_n 0, 1) := by decide +kernel
theorem dX1_toldColumn_6 : decode cX1_toldColumn 6 = .ok (.getfield 12, 3) := by decide +kernel
theorem dX1_toldColumn_9 : decode cX1_toldColumn 9 = .ok (.getfield 63, 3) := by decide +kernel
theorem dX1_toldColumn_12 : decode cX1_toldColumn 12 = .ok (.if_icmp .lt 5, 3) := by decide +kernel
theorem dX1_toldColumn_15 : decode cX1_toldColumn 15 = .ok (.iconst (-1), 1) := by decide +kernel
theorem dX1_toldColumn_16 : decode cX1_toldColumn 16 = .ok (.ireturn, 1) := by decide +kernel
theorem dX1_toldColumn_17 : decode cX1_toldColumn 17 = .ok (.aload_n 0, 1) := by decide +kernel
theorem dX1_toldColumn_18 : decode cX1_toldColumn 18 = .ok (.getfield 12, 3) := by decide +kernel
theorem dX1_toldColumn_21 : decode cX1_toldColumn 21 = .ok (.getfield 85, 3) := by decide +kernel
theorem dX1_toldColumn_24 : decode cX1_toldColumn 24 = .ok (.iload_n 1, 1) := by decide +kernel
theorem dX1_toldColumn_25 : decode cX1_toldColumn 25 = .ok (.iaload, 1) := by decide +kernel
theorem dX1_toldColumn_26 : decode cX1_toldColumn 26 = .ok (.aload_n 0, 1) := by decide +kernel
theorem dX1_toldColumn_27 : decode cX1_toldColumn 27 = .ok (.getfield 12, 3) := by decide +kernel
theorem dX1_toldColumn_30 : decode cX1_toldColumn 30 = .ok (.getfield 89, 3) := by decide +kernel
theorem dX1_toldColumn_33 : decode cX1_toldColumn 33 = .ok (.iload_n 1, 1) := by decide +kernel
theorem dX1_toldColumn_34 : decode cX1_toldColumn 34 = .ok (.baload, 1) := by decide +kernel
theorem dX1_toldColumn_35 : decode cX1_toldColumn 35 = .ok (.ifCond .eq 8, 3) := by decide +kernel
theorem dX1_toldColumn_38 : decode cX1_toldColumn 38 = .ok (.bipush 10, 2) := by decide +kernel
theorem dX1_toldColumn_40 : decode cX1_toldColumn 40 = .ok (.goto 4, 3) := by decide +kernel
theorem dX1_toldColumn_43 : decode cX1_toldColumn 43 = .ok (.iconst 0, 1) := by decide +kernel
theorem dX1_toldColumn_44 : decode cX1_toldColumn 44 = .ok (.iadd, 1) := by decide +kernel
theorem dX1_toldColumn_45 : decode cX1_toldColumn 45 = .ok (.ireturn, 1) := by decide +kernel
theorem dX2_init_0 : decode cX2_init 0 = .ok (.aload_n 0, 1) := by decide +kernel
theorem dX2_init_1 : decode cX2_init 1 = .ok (.invokespecial 3, 3) := by decide +kernel
theorem dX2_init_4 : decode cX2_init 4 = .ok (.aload_n 0, 1) := by decide +kernel
theorem dX2_init_5 : decode cX2_init 5 = .ok (.bipush 120, 2) := by decide +kernel
theorem dX2_init_7 : decode cX2_init 7 = .ok (.newarray .int, 2) := by decide +kernel
theorem dX2_init_9 : decode cX2_init 9 = .ok (.putfield 9, 3) := by decide +kernel
theorem dX2_init_12 : decode cX2_init 12 = .ok (.return_, 1) := by decide +kernel
theorem dX2_codeIn_0 : decode cX2_codeIn 0 = .ok (.iload_n 0, 1) := by decide +kernel
theorem dX2_codeIn_1 : decode cX2_codeIn 1 = .ok (.iconst 1, 1) := by decide +kernel
theorem dX2_codeIn_2 : decode cX2_codeIn 2 = .ok (.ishr, 1) := by decide +kernel
theorem dX2_codeIn_3 : decode cX2_codeIn 3 = .ok (.ireturn, 1) := by decide +kernel
theorem dX2_isAdd_0 : decode cX2_isAdd 0 = .ok (.iload_n 0, 1) := by decide +kernel
theorem dX2_isAdd_1 : decode cX2_isAdd 1 = .ok (.iconst 1, 1) := by decide +kernel
theorem dX2_isAdd_2 : decode cX2_isAdd 2 = .ok (.iand, 1) := by decide +kernel
theorem dX2_isAdd_3 : decode cX2_isAdd 3 = .ok (.iconst 1, 1) := by decide +kernel
theorem dX2_isAdd_4 : decode cX2_isAdd 4 = .ok (.if_icmp .ne 7, 3) := by decide +kernel
theorem dX2_isAdd_7 : decode cX2_isAdd 7 = .ok (.iconst 1, 1) := by decide +kernel
theorem dX2_isAdd_8 : decode cX2_isAdd 8 = .ok (.goto 4, 3) := by decide +kernel
theorem dX2_isAdd_11 : decode cX2_isAdd 11 = .ok (.iconst 0, 1) := by decide +kernel
theorem dX2_isAdd_12 : decode cX2_isAdd 12 = .ok (.ireturn, 1) := by decide +kernel
theorem dX2_clearAll_0 : decode cX2_clearAll 0 = .ok (.aload_n 0, 1) := by decide +kernel
theorem dX2_clearAll_1 : decode cX2_clearAll 1 = .ok (.iconst 0, 1) := by decide +kernel
theorem dX2_clearAll_2 : decode cX2_clearAll 2 = .ok (.putfield 15, 3) := by decide +kernel
theorem dX2_clearAll_5 : decode cX2_clearAll 5 = .ok (.aload_n 0, 1) := by decide +kernel
theorem dX2_clearAll_6 : decode cX2_clearAll 6 = .ok (.iconst 0, 1) := by decide +kernel
theorem dX2_clearAll_7 : decode cX2_clearAll 7 = .ok (.putfield 19, 3) := by decide +kernel
theorem dX2_clearAll_10 : decode cX2_clearAll 10 = .ok (.return_, 1) := by decide +kernel
theorem dX2_copyFrom_0 : decode cX2_copyFrom 0 = .ok (.aload_n 1, 1) := by decide +kernel
theorem dX2_copyFrom_1 : decode cX2_copyFrom 1 = .ok (.getfield 9, 3) := by decide +kernel
theorem dX2_copyFrom_4 : decode cX2_copyFrom 4 = .ok (.aload_n 1, 1) := by decide +kernel
theorem dX2_copyFrom_5 : decode cX2_copyFrom 5 = .ok (.getfield 15, 3) := by decide +kernel
theorem dX2_copyFrom_8 : decode cX2_copyFrom 8 = .ok (.aload_n 0, 1) := by decide +kernel
theorem dX2_copyFrom_9 : decode cX2_copyFrom 9 = .ok (.getfield 9, 3) := by decide +kernel
theorem dX2_copyFrom_12 : decode cX2_copyFrom 12 = .ok (.iconst 0, 1) := by decide +kernel
theorem dX2_copyFrom_13 : decode cX2_copyFrom 13 = .ok (.aload_n 1, 1) := by decide +kernel
theorem dX2_copyFrom_14 : decode cX2_copyFrom 14 = .ok (.getfield 19, 3) := by decide +kernel
theorem dX2_copyFrom_17 : decode cX2_copyFrom 17 = .ok (.invokestatic 22, 3) := by decide +kernel
theorem dX2_copyFrom_20 : decode cX2_copyFrom 20 = .ok (.aload_n 0, 1) := by decide +kernel
theorem dX2_copyFrom_21 : decode cX2_copyFrom 21 = .ok (.iconst 0, 1) := by decide +kernel
theorem dX2_copyFrom_22 : decode cX2_copyFrom 22 = .ok (.putfield 15, 3) := by decide +kernel
theorem dX2_copyFrom_25 : decode cX2_copyFrom 25 = .ok (.aload_n 0, 1) := by decide +kernel
theorem dX2_copyFrom_26 : decode cX2_copyFrom 26 = .ok (.aload_n 1, 1) := by decide +kernel
theorem dX2_copyFrom_27 : decode cX2_copyFrom 27 = .ok (.getfield 19, 3) := by decide +kernel
theorem dX2_copyFrom_30 : decode cX2_copyFrom 30 = .ok (.putfield 19, 3) := by decide +kernel
theorem dX2_copyFrom_33 : decode cX2_copyFrom 33 = .ok (.return_, 1) := by decide +kernel
theorem dX2_isFull_0 : decode cX2_isFull 0 = .ok (.aload_n 0, 1) := by decide +kernel
theorem dX2_isFull_1 : decode cX2_isFull 1 = .ok (.getfield 15, 3) := by decide +kernel
theorem dX2_isFull_4 : decode cX2_isFull 4 = .ok (.aload_n 0, 1) := by decide +kernel
theorem dX2_isFull_5 : decode cX2_isFull 5 = .ok (.getfield 19, 3) := by decide +kernel
theorem dX2_isFull_8 : decode cX2_isFull 8 = .ok (.iadd, 1) := by decide +kernel
theorem dX2_isFull_9 : decode cX2_isFull 9 = .ok (.bipush 120, 2) := by decide +kernel
theorem dX2_isFull_11 : decode cX2_isFull 11 = .ok (.if_icmp .lt 7, 3) := by decide +kernel
theorem dX2_isFull_14 : decode cX2_isFull 14 = .ok (.iconst 1, 1) := by decide +kernel
theorem dX2_isFull_15 : decode cX2_isFull 15 = .ok (.goto 4, 3) := by decide +kernel
theorem dX2_isFull_18 : decode cX2_isFull 18 = .ok (.iconst 0, 1) := by decide +kernel
theorem dX2_isFull_19 : decode cX2_isFull 19 = .ok (.ireturn, 1) := by decide +kernel
theorem dX2_append_0 : decode cX2_append 0 = .ok (.aload_n 0, 1) := by decide +kernel
theorem dX2_append_1 : decode cX2_append 1 = .ok (.invokevirtual 28, 3) := by decide +kernel
theorem dX2_append_4 : decode cX2_append 4 = .ok (.ifCond .ne 40, 3) := by decide +kernel
theorem dX2_append_7 : decode cX2_append 7 = .ok (.aload_n 0, 1) := by decide +kernel
theorem dX2_append_8 : decode cX2_append 8 = .ok (.getfield 9, 3) := by decide +kernel
theorem dX2_append_11 : decode cX2_append 11 = .ok (.aload_n 0, 1) := by decide +kernel
theorem dX2_append_12 : decode cX2_append 12 = .ok (.getfield 15, 3) := by decide +kernel
theorem dX2_append_15 : decode cX2_append 15 = .ok (.aload_n 0, 1) := by decide +kernel
theorem dX2_append_16 : decode cX2_append 16 = .ok (.getfield 19, 3) := by decide +kernel
theorem dX2_append_19 : decode cX2_append 19 = .ok (.iadd, 1) := by decide +kernel
theorem dX2_append_20 : decode cX2_append 20 = .ok (.iload_n 1, 1) := by decide +kernel
theorem dX2_append_21 : decode cX2_append 21 = .ok (.iconst 1, 1) := by decide +kernel
theorem dX2_append_22 : decode cX2_append 22 = .ok (.ishl, 1) := by decide +kernel
theorem dX2_append_23 : decode cX2_append 23 = .ok (.iload_n 2, 1) := by decide +kernel
theorem dX2_append_24 : decode cX2_append 24 = .ok (.ifCond .eq 7, 3) := by decide +kernel
theorem dX2_append_27 : decode cX2_append 27 = .ok (.iconst 1, 1) := by decide +kernel
theorem dX2_append_28 : decode cX2_append 28 = .ok (.goto 4, 3) := by decide +kernel
theorem dX2_append_31 : decode cX2_append 31 = .ok (.iconst 0, 1) := by decide +kernel
theorem dX2_append_32 : decode cX2_append 32 = .ok (.ior, 1) := by decide +kernel
theorem dX2_append_33 : decode cX2_append 33 = .ok (.iastore, 1) := by decide +kernel
theorem dX2_append_34 : decode cX2_append 34 = .ok (.aload_n 0, 1) := by decide +kernel
theorem dX2_append_35 : decode cX2_append 35 = .ok (.dup, 1) := by decide +kernel
theorem dX2_append_36 : decode cX2_append 36 = .ok (.getfield 19, 3) := by decide +kernel
theorem dX2_append_39 : decode cX2_append 39 = .ok (.iconst 1, 1) := by decide +kernel
theorem dX2_append_40 : decode cX2_append 40 = .ok (.iadd, 1) := by decide +kernel
theorem dX2_append_41 : decode cX2_append 41 = .ok (.putfield 19, 3) := by decide +kernel
theorem dX2_append_44 : decode cX2_append 44 = .ok (.return_, 1) := by decide +kernel
theorem dX2_itemAt_0 : decode cX2_itemAt 0 = .ok (.iload_n 1, 1) := by decide +kernel
theorem dX2_itemAt_1 : decode cX2_itemAt 1 = .ok (.ifCond .lt 25, 3) := by decide +kernel
theorem dX2_itemAt_4 : decode cX2_itemAt 4 = .ok (.iload_n 1, 1) := by decide +kernel
theorem dX2_itemAt_5 : decode cX2_itemAt 5 = .ok (.aload_n 0, 1) := by decide +kernel
theorem dX2_itemAt_6 : decode cX2_itemAt 6 = .ok (.getfield 19, 3) := by decide +kernel
theorem dX2_itemAt_9 : decode cX2_itemAt 9 = .ok (.if_icmp .ge 17, 3) := by decide +kernel
theorem dX2_itemAt_12 : decode cX2_itemAt 12 = .ok (.aload_n 0, 1) := by decide +kernel
theorem dX2_itemAt_13 : decode cX2_itemAt 13 = .ok (.getfield 9, 3) := by decide +kernel
theorem dX2_itemAt_16 : decode cX2_itemAt 16 = .ok (.aload_n 0, 1) := by decide +kernel
theorem dX2_itemAt_17 : decode cX2_itemAt 17 = .ok (.getfield 15, 3) := by decide +kernel
theorem dX2_itemAt_20 : decode cX2_itemAt 20 = .ok (.iload_n 1, 1) := by decide +kernel
theorem dX2_itemAt_21 : decode cX2_itemAt 21 = .ok (.iadd, 1) := by decide +kernel
theorem dX2_itemAt_22 : decode cX2_itemAt 22 = .ok (.iaload, 1) := by decide +kernel
theorem dX2_itemAt_23 : decode cX2_itemAt 23 = .ok (.goto 4, 3) := by decide +kernel
theorem dX2_itemAt_26 : decode cX2_itemAt 26 = .ok (.iconst (-1), 1) := by decide +kernel
theorem dX2_itemAt_27 : decode cX2_itemAt 27 = .ok (.ireturn, 1) := by decide +kernel
theorem dX2_dropFirst_0 : decode cX2_dropFirst 0 = .ok (.aload_n 0, 1) := by decide +kernel
theorem dX2_dropFirst_1 : decode cX2_dropFirst 1 = .ok (.getfield 19, 3) := by decide +kernel
theorem dX2_dropFirst_4 : decode cX2_dropFirst 4 = .ok (.ifCond .le 23, 3) := by decide +kernel
theorem dX2_dropFirst_7 : decode cX2_dropFirst 7 = .ok (.aload_n 0, 1) := by decide +kernel
theorem dX2_dropFirst_8 : decode cX2_dropFirst 8 = .ok (.dup, 1) := by decide +kernel
theorem dX2_dropFirst_9 : decode cX2_dropFirst 9 = .ok (.getfield 15, 3) := by decide +kernel
theorem dX2_dropFirst_12 : decode cX2_dropFirst 12 = .ok (.iconst 1, 1) := by decide +kernel
theorem dX2_dropFirst_13 : decode cX2_dropFirst 13 = .ok (.iadd, 1) := by decide +kernel
theorem dX2_dropFirst_14 : decode cX2_dropFirst 14 = .ok (.putfield 15, 3) := by decide +kernel
theorem dX2_dropFirst_17 : decode cX2_dropFirst 17 = .ok (.aload_n 0, 1) := by decide +kernel
theorem dX2_dropFirst_18 : decode cX2_dropFirst 18 = .ok (.dup, 1) := by decide +kernel
theorem dX2_dropFirst_19 : decode cX2_dropFirst 19 = .ok (.getfield 19, 3) := by decide +kernel
theorem dX2_dropFirst_22 : decode cX2_dropFirst 22 = .ok (.iconst 1, 1) := by decide +kernel
theorem dX2_dropFirst_23 : decode cX2_dropFirst 23 = .ok (.isub, 1) := by decide +kernel
theorem dX2_dropFirst_24 : decode cX2_dropFirst 24 = .ok (.putfield 19, 3) := by decide +kernel
theorem dX2_dropFirst_27 : decode cX2_dropFirst 27 = .ok (.return_, 1) := by decide +kernel
theorem dX3_init_0 : decode cX3_init 0 = .ok (.aload_n 0, 1) := by decide +kernel
theorem dX3_init_1 : decode cX3_init 1 = .ok (.invokespecial 3, 3) := by decide +kernel
theorem dX3_init_4 : decode cX3_init 4 = .ok (.aload_n 0, 1) := by decide +kernel
theorem dX3_init_5 : decode cX3_init 5 = .ok (.new 9, 3) := by decide +kernel
theorem dX3_init_8 : decode cX3_init 8 = .ok (.dup, 1) := by decide +kernel
theorem dX3_init_9 : decode cX3_init 9 = .ok (.invokespecial 11, 3) := by decide +kernel
theorem dX3_init_12 : decode cX3_init 12 = .ok (.putfield 12, 3) := by decide +kernel
theorem dX3_init_15 : decode cX3_init 15 = .ok (.aload_n 0, 1) := by decide +kernel
theorem dX3_init_16 : decode cX3_init 16 = .ok (.new 18, 3) := by decide +kernel
theorem dX3_init_19 : decode cX3_init 19 = .ok (.dup, 1) := by decide +kernel
theorem dX3_init_20 : decode cX3_init 20 = .ok (.invokespecial 20, 3) := by decide +kernel
theorem dX3_init_23 : decode cX3_init 23 = .ok (.putfield 21, 3) := by decide +kernel
theorem dX3_init_26 : decode cX3_init 26 = .ok (.aload_n 0, 1) := by decide +kernel
theorem dX3_init_27 : decode cX3_init 27 = .ok (.new 25, 3) := by decide +kernel
theorem dX3_init_30 : decode cX3_init 30 = .ok (.dup, 1) := by decide +kernel
theorem dX3_init_31 : decode cX3_init 31 = .ok (.invokespecial 27, 3) := by decide +kernel
theorem dX3_init_34 : decode cX3_init 34 = .ok (.putfield 28, 3) := by decide +kernel
theorem dX3_init_37 : decode cX3_init 37 = .ok (.aload_n 0, 1) := by decide +kernel
theorem dX3_init_38 : decode cX3_init 38 = .ok (.new 25, 3) := by decide +kernel
theorem dX3_init_41 : decode cX3_init 41 = .ok (.dup, 1) := by decide +kernel
theorem dX3_init_42 : decode cX3_init 42 = .ok (.invokespecial 27, 3) := by decide +kernel
theorem dX3_init_45 : decode cX3_init 45 = .ok (.putfield 32, 3) := by decide +kernel
theorem dX3_init_48 : decode cX3_init 48 = .ok (.return_, 1) := by decide +kernel
theorem dX3_copyFrom_0 : decode cX3_copyFrom 0 = .ok (.aload_n 0, 1) := by decide +kernel
theorem dX3_copyFrom_1 : decode cX3_copyFrom 1 = .ok (.aload_n 1, 1) := by decide +kernel
theorem dX3_copyFrom_2 : decode cX3_copyFrom 2 = .ok (.getfield 35, 3) := by decide +kernel
theorem dX3_copyFrom_5 : decode cX3_copyFrom 5 = .ok (.putfield 35, 3) := by decide +kernel
theorem dX3_copyFrom_8 : decode cX3_copyFrom 8 = .ok (.aload_n 0, 1) := by decide +kernel
theorem dX3_copyFrom_9 : decode cX3_copyFrom 9 = .ok (.aload_n 1, 1) := by decide +kernel
theorem dX3_copyFrom_10 : decode cX3_copyFrom 10 = .ok (.getfield 39, 3) := by decide +kernel
theorem dX3_copyFrom_13 : decode cX3_copyFrom 13 = .ok (.putfield 39, 3) := by decide +kernel
theorem dX3_copyFrom_16 : decode cX3_copyFrom 16 = .ok (.aload_n 0, 1) := by decide +kernel
theorem dX3_copyFrom_17 : decode cX3_copyFrom 17 = .ok (.aload_n 1, 1) := by decide +kernel
theorem dX3_copyFrom_18 : decode cX3_copyFrom 18 = .ok (.getfield 42, 3) := by decide +kernel
theorem dX3_copyFrom_21 : decode cX3_copyFrom 21 = .ok (.putfield 42, 3) := by decide +kernel
theorem dX3_copyFrom_24 : decode cX3_copyFrom 24 = .ok (.aload_n 0, 1) := by decide +kernel
theorem dX3_copyFrom_25 : decode cX3_copyFrom 25 = .ok (.aload_n 1, 1) := by decide +kernel
theorem dX3_copyFrom_26 : decode cX3_copyFrom 26 = .ok (.getfield 45, 3) := by decide +kernel
theorem dX3_copyFrom_29 : decode cX3_copyFrom 29 = .ok (.putfield 45, 3) := by decide +kernel
theorem dX3_copyFrom_32 : decode cX3_copyFrom 32 = .ok (.aload_n 0, 1) := by decide +kernel
theorem dX3_copyFrom_33 : decode cX3_copyFrom 33 = .ok (.aload_n 1, 1) := by decide +kernel
theorem dX3_copyFrom_34 : decode cX3_copyFrom 34 = .ok (.getfield 48, 3) := by decide +kernel
theorem dX3_copyFrom_37 : decode cX3_copyFrom 37 = .ok (.putfield 48, 3) := by decide +kernel
theorem dX3_copyFrom_40 : decode cX3_copyFrom 40 = .ok (.aload_n 0, 1) := by decide +kernel
theorem dX3_copyFrom_41 : decode cX3_copyFrom 41 = .ok (.getfield 12, 3) := by decide +kernel
theorem dX3_copyFrom_44 : decode cX3_copyFrom 44 = .ok (.aload_n 1, 1) := by decide +kernel
theorem dX3_copyFrom_45 : decode cX3_copyFrom 45 = .ok (.getfield 12, 3) := by decide +kernel
theorem dX3_copyFrom_48 : decode cX3_copyFrom 48 = .ok (.invokevirtual 51, 3) := by decide +kernel
theorem dX3_copyFrom_51 : decode cX3_copyFrom 51 = .ok (.aload_n 0, 1) := by decide +kernel
theorem dX3_copyFrom_52 : decode cX3_copyFrom 52 = .ok (.getfield 21, 3) := by decide +kernel
theorem dX3_copyFrom_55 : decode cX3_copyFrom 55 = .ok (.aload_n 1, 1) := by decide +kernel
theorem dX3_copyFrom_56 : decode cX3_copyFrom 56 = .ok (.getfield 21, 3) := by decide +kernel
theorem dX3_copyFrom_59 : decode cX3_copyFrom 59 = .ok (.invokevirtual 55, 3) := by decide +kernel
theorem dX3_copyFrom_62 : decode cX3_copyFrom 62 = .ok (.aload_n 0, 1) := by decide +kernel
theorem dX3_copyFrom_63 : decode cX3_copyFrom 63 = .ok (.getfield 28, 3) := by decide +kernel
theorem dX3_copyFrom_66 : decode cX3_copyFrom 66 = .ok (.aload_n 1, 1) := by decide +kernel
theorem dX3_copyFrom_67 : decode cX3_copyFrom 67 = .ok (.getfield 28, 3) := by decide +kernel
theorem dX3_copyFrom_70 : decode cX3_copyFrom 70 = .ok (.invokevirtual 58, 3) := by decide +kernel
theorem dX3_copyFrom_73 : decode cX3_copyFrom 73 = .ok (.aload_n 0, 1) := by decide +kernel
theorem dX3_copyFrom_74 : decode cX3_copyFrom 74 = .ok (.getfield 32, 3) := by decide +kernel
theorem dX3_copyFrom_77 : decode cX3_copyFrom 77 = .ok (.aload_n 1, 1) := by decide +kernel
theorem dX3_copyFrom_78 : decode cX3_copyFrom 78 = .ok (.getfield 32, 3) := by decide +kernel
theorem dX3_copyFrom_81 : decode cX3_copyFrom 81 = .ok (.invokevirtual 58, 3) := by decide +kernel
theorem dX3_copyFrom_84 : decode cX3_copyFrom 84 = .ok (.return_, 1) := by decide +kernel
theorem dX3_isUnderWay_0 : decode cX3_isUnderWay 0 = .ok (.aload_n 0, 1) := by decide +kernel
theorem dX3_isUnderWay_1 : decode cX3_isUnderWay 1 = .ok (.getfield 35, 3) := by decide +kernel
theorem dX3_isUnderWay_4 : decode cX3_isUnderWay 4 = .ok (.iconst 1, 1) := by decide +kernel
theorem dX3_isUnderWay_5 : decode cX3_isUnderWay 5 = .ok (.if_icmp .eq 19, 3) := by decide +kernel
theorem dX3_isUnderWay_8 : decode cX3_isUnderWay 8 = .ok (.aload_n 0, 1) := by decide +kernel
theorem dX3_isUnderWay_9 : decode cX3_isUnderWay 9 = .ok (.getfield 35, 3) := by decide +kernel
theorem dX3_isUnderWay_12 : decode cX3_isUnderWay 12 = .ok (.iconst 2, 1) := by decide +kernel
theorem dX3_isUnderWay_13 : decode cX3_isUnderWay 13 = .ok (.if_icmp .eq 11, 3) := by decide +kernel
theorem dX3_isUnderWay_16 : decode cX3_isUnderWay 16 = .ok (.aload_n 0, 1) := by decide +kernel
theorem dX3_isUnderWay_17 : decode cX3_isUnderWay 17 = .ok (.getfield 35, 3) := by decide +kernel
theorem dX3_isUnderWay_20 : decode cX3_isUnderWay 20 = .ok (.iconst 3, 1) := by decide +kernel
theorem dX3_isUnderWay_21 : decode cX3_isUnderWay 21 = .ok (.if_icmp .ne 7, 3) := by decide +kernel
theorem dX3_isUnderWay_24 : decode cX3_isUnderWay 24 = .ok (.iconst 1, 1) := by decide +kernel
theorem dX3_isUnderWay_25 : decode cX3_isUnderWay 25 = .ok (.goto 4, 3) := by decide +kernel
theorem dX3_isUnderWay_28 : decode cX3_isUnderWay 28 = .ok (.iconst 0, 1) := by decide +kernel
theorem dX3_isUnderWay_29 : decode cX3_isUnderWay 29 = .ok (.ireturn, 1) := by decide +kernel
theorem dX3_start_0 : decode cX3_start 0 = .ok (.aload_n 0, 1) := by decide +kernel
theorem dX3_start_1 : decode cX3_start 1 = .ok (.invokevirtual 61, 3) := by decide +kernel
theorem dX3_start_4 : decode cX3_start 4 = .ok (.aload_n 0, 1) := by decide +kernel
theorem dX3_start_5 : decode cX3_start 5 = .ok (.getfield 12, 3) := by decide +kernel
theorem dX3_start_8 : decode cX3_start 8 = .ok (.aload_n 1, 1) := by decide +kernel
theorem dX3_start_9 : decode cX3_start 9 = .ok (.invokevirtual 51, 3) := by decide +kernel
theorem dX3_start_12 : decode cX3_start 12 = .ok (.aload_n 0, 1) := by decide +kernel
theorem dX3_start_13 : decode cX3_start 13 = .ok (.iconst 1, 1) := by decide +kernel
theorem dX3_start_14 : decode cX3_start 14 = .ok (.putfield 35, 3) := by decide +kernel
theorem dX3_start_17 : decode cX3_start 17 = .ok (.aload_n 0, 1) := by decide +kernel
theorem dX3_start_18 : decode cX3_start 18 = .ok (.iload_n 2, 1) := by decide +kernel
theorem dX3_start_19 : decode cX3_start 19 = .ok (.putfield 39, 3) := by decide +kernel
theorem dX3_start_22 : decode cX3_start 22 = .ok (.aload_n 0, 1) := by decide +kernel
theorem dX3_start_23 : decode cX3_start 23 = .ok (.iconst 0, 1) := by decide +kernel
theorem dX3_start_24 : decode cX3_start 24 = .ok (.putfield 48, 3) := by decide +kernel
theorem dX3_start_27 : decode cX3_start 27 = .ok (.return_, 1) := by decide +kernel
theorem dX3_drop_0 : decode cX3_drop 0 = .ok (.aload_n 0, 1) := by decide +kernel
theorem dX3_drop_1 : decode cX3_drop 1 = .ok (.invokevirtual 61, 3) := by decide +kernel
theorem dX3_drop_4 : decode cX3_drop 4 = .ok (.aload_n 0, 1) := by decide +kernel
theorem dX3_drop_5 : decode cX3_drop 5 = .ok (.iload_n 1, 1) := by decide +kernel
theorem dX3_drop_6 : decode cX3_drop 6 = .ok (.putfield 48, 3) := by decide +kernel
theorem dX3_drop_9 : decode cX3_drop 9 = .ok (.return_, 1) := by decide +kernel
theorem dX3_goOn_0 : decode cX3_goOn 0 = .ok (.aload_n 0, 1) := by decide +kernel
theorem dX3_goOn_1 : decode cX3_goOn 1 = .ok (.iconst 2, 1) := by decide +kernel
theorem dX3_goOn_2 : decode cX3_goOn 2 = .ok (.putfield 35, 3) := by decide +kernel
theorem dX3_goOn_5 : decode cX3_goOn 5 = .ok (.aload_n 0, 1) := by decide +kernel
theorem dX3_goOn_6 : decode cX3_goOn 6 = .ok (.invokevirtual 64, 3) := by decide +kernel
theorem dX3_goOn_9 : decode cX3_goOn 9 = .ok (.return_, 1) := by decide +kernel
theorem dX3_doUnit_0 : decode cX3_doUnit 0 = .ok (.aload_n 0, 1) := by decide +kernel
theorem dX3_doUnit_1 : decode cX3_doUnit 1 = .ok (.getfield 35, 3) := by decide +kernel
theorem dX3_doUnit_4 : decode cX3_doUnit 4 = .ok (.iconst 1, 1) := by decide +kernel
theorem dX3_doUnit_5 : decode cX3_doUnit 5 = .ok (.if_icmp .ne 11, 3) := by decide +kernel
theorem dX3_doUnit_8 : decode cX3_doUnit 8 = .ok (.aload_n 0, 1) := by decide +kernel
theorem dX3_doUnit_9 : decode cX3_doUnit 9 = .ok (.aload_n 1, 1) := by decide +kernel
theorem dX3_doUnit_10 : decode cX3_doUnit 10 = .ok (.invokevirtual 67, 3) := by decide +kernel
theorem dX3_doUnit_13 : decode cX3_doUnit 13 = .ok (.goto 74, 3) := by decide +kernel
theorem dX3_doUnit_16 : decode cX3_doUnit 16 = .ok (.aload_n 0, 1) := by decide +kernel
theorem dX3_doUnit_17 : decode cX3_doUnit 17 = .ok (.getfield 28, 3) := by decide +kernel
theorem dX3_doUnit_20 : decode cX3_doUnit 20 = .ok (.getfield 71, 3) := by decide +kernel
theorem dX3_doUnit_23 : decode cX3_doUnit 23 = .ok (.ifCond .le 10, 3) := by decide +kernel
theorem dX3_doUnit_26 : decode cX3_doUnit 26 = .ok (.aload_n 0, 1) := by decide +kernel
theorem dX3_doUnit_27 : decode cX3_doUnit 27 = .ok (.invokevirtual 74, 3) := by decide +kernel
theorem dX3_doUnit_30 : decode cX3_doUnit 30 = .ok (.goto 57, 3) := by decide +kernel
theorem dX3_doUnit_33 : decode cX3_doUnit 33 = .ok (.aload_n 0, 1) := by decide +kernel
theorem dX3_doUnit_34 : decode cX3_doUnit 34 = .ok (.getfield 35, 3) := by decide +kernel
theorem dX3_doUnit_37 : decode cX3_doUnit 37 = .ok (.iconst 3, 1) := by decide +kernel
theorem dX3_doUnit_38 : decode cX3_doUnit 38 = .ok (.if_icmp .ne 35, 3) := by decide +kernel
theorem dX3_doUnit_41 : decode cX3_doUnit 41 = .ok (.aload_n 0, 1) := by decide +kernel
theorem dX3_doUnit_42 : decode cX3_doUnit 42 = .ok (.aload_n 0, 1) := by decide +kernel
theorem dX3_doUnit_43 : decode cX3_doUnit 43 = .ok (.getfield 12, 3) := by decide +kernel
theorem dX3_doUnit_46 : decode cX3_doUnit 46 = .ok (.getfield 77, 3) := by decide +kernel
theorem dX3_doUnit_49 : decode cX3_doUnit 49 = .ok (.ifCond .eq 17, 3) := by decide +kernel
theorem dX3_doUnit_52 : decode cX3_doUnit 52 = .ok (.aload_n 0, 1) := by decide +kernel
theorem dX3_doUnit_53 : decode cX3_doUnit 53 = .ok (.getfield 21, 3) := by decide +kernel
theorem dX3_doUnit_56 : decode cX3_doUnit 56 = .ok (.invokevirtual 81, 3) := by decide +kernel
theorem dX3_doUnit_59 : decode cX3_doUnit 59 = .ok (.ifCond .eq 7, 3) := by decide +kernel
theorem dX3_doUnit_62 : decode cX3_doUnit 62 = .ok (.iconst 5, 1) := by decide +kernel
theorem dX3_doUnit_63 : decode cX3_doUnit 63 = .ok (.goto 4, 3) := by decide +kernel
theorem dX3_doUnit_66 : decode cX3_doUnit 66 = .ok (.iconst 4, 1) := by decide +kernel
theorem dX3_doUnit_67 : decode cX3_doUnit 67 = .ok (.putfield 35, 3) := by decide +kernel
theorem dX3_doUnit_70 : decode cX3_doUnit 70 = .ok (.goto 17, 3) := by decide +kernel
theorem dX3_doUnit_73 : decode cX3_doUnit 73 = .ok (.aload_n 0, 1) := by decide +kernel
theorem dX3_doUnit_74 : decode cX3_doUnit 74 = .ok (.getfield 35, 3) := by decide +kernel
theorem dX3_doUnit_77 : decode cX3_doUnit 77 = .ok (.iconst 2, 1) := by decide +kernel
theorem dX3_doUnit_78 : decode cX3_doUnit 78 = .ok (.if_icmp .ne 9, 3) := by decide +kernel
theorem dX3_doUnit_81 : decode cX3_doUnit 81 = .ok (.aload_n 0, 1) := by decide +kernel
theorem dX3_doUnit_82 : decode cX3_doUnit 82 = .ok (.iload_n 2, 1) := by decide +kernel
theorem dX3_doUnit_83 : decode cX3_doUnit 83 = .ok (.iload_n 3, 1) := by decide +kernel
theorem dX3_doUnit_84 : decode cX3_doUnit 84 = .ok (.invokevirtual 85, 3) := by decide +kernel
theorem dX3_doUnit_87 : decode cX3_doUnit 87 = .ok (.return_, 1) := by decide +kernel
theorem dX3_follow_0 : decode cX3_follow 0 = .ok (.iconst 0, 1) := by decide +kernel
theorem dX3_follow_1 : decode cX3_follow 1 = .ok (.istore_n 3, 1) := by decide +kernel
theorem dX3_follow_2 : decode cX3_follow 2 = .ok (.iload_n 3, 1) := by decide +kernel
theorem dX3_follow_3 : decode cX3_follow 3 = .ok (.bipush 48, 2) := by decide +kernel
theorem dX3_follow_5 : decode cX3_follow 5 = .ok (.if_icmp .ge 79, 3) := by decide +kernel
theorem dX3_follow_8 : decode cX3_follow 8 = .ok (.aload_n 0, 1) := by decide +kernel
theorem dX3_follow_9 : decode cX3_follow 9 = .ok (.getfield 35, 3) := by decide +kernel
theorem dX3_follow_12 : decode cX3_follow 12 = .ok (.ifCond .eq 72, 3) := by decide +kernel
theorem dX3_follow_15 : decode cX3_follow 15 = .ok (.aload_n 2, 1) := by decide +kernel
theorem dX3_follow_16 : decode cX3_follow 16 = .ok (.iload_n 3, 1) := by decide +kernel
theorem dX3_follow_17 : decode cX3_follow 17 = .ok (.invokevirtual 89, 3) := by decide +kernel
theorem dX3_follow_20 : decode cX3_follow 20 = .ok (.ifCond .ne 6, 3) := by decide +kernel
theorem dX3_follow_23 : decode cX3_follow 23 = .ok (.goto 55, 3) := by decide +kernel
theorem dX3_follow_26 : decode cX3_follow 26 = .ok (.aload_n 0, 1) := by decide +kernel
theorem dX3_follow_27 : decode cX3_follow 27 = .ok (.getfield 12, 3) := by decide +kernel
theorem dX3_follow_30 : decode cX3_follow 30 = .ok (.aload_n 1, 1) := by decide +kernel
theorem dX3_follow_31 : decode cX3_follow 31 = .ok (.iload_n 3, 1) := by decide +kernel
theorem dX3_follow_32 : decode cX3_follow 32 = .ok (.invokevirtual 95, 3) := by decide +kernel
theorem dX3_follow_35 : decode cX3_follow 35 = .ok (.iload_n 3, 1) := by decide +kernel
theorem dX3_follow_36 : decode cX3_follow 36 = .ok (.invokevirtual 101, 3) := by decide +kernel
theorem dX3_follow_39 : decode cX3_follow 39 = .ok (.istore 4, 2) := by decide +kernel
theorem dX3_follow_41 : decode cX3_follow 41 = .ok (.aload_n 0, 1) := by decide +kernel
theorem dX3_follow_42 : decode cX3_follow 42 = .ok (.getfield 12, 3) := by decide +kernel
theorem dX3_follow_45 : decode cX3_follow 45 = .ok (.aload_n 2, 1) := by decide +kernel
theorem dX3_follow_46 : decode cX3_follow 46 = .ok (.getfield 105, 3) := by decide +kernel
theorem dX3_follow_49 : decode cX3_follow 49 = .ok (.iload_n 3, 1) := by decide +kernel
theorem dX3_follow_50 : decode cX3_follow 50 = .ok (.iaload, 1) := by decide +kernel
theorem dX3_follow_51 : decode cX3_follow 51 = .ok (.iload_n 3, 1) := by decide +kernel
theorem dX3_follow_52 : decode cX3_follow 52 = .ok (.invokevirtual 101, 3) := by decide +kernel
theorem dX3_follow_55 : decode cX3_follow 55 = .ok (.istore 5, 2) := by decide +kernel
theorem dX3_follow_57 : decode cX3_follow 57 = .ok (.iload 4, 2) := by decide +kernel
theorem dX3_follow_59 : decode cX3_follow 59 = .ok (.iload 5, 2) := by decide +kernel
theorem dX3_follow_61 : decode cX3_follow 61 = .ok (.if_icmp .eq 17, 3) := by decide +kernel
theorem dX3_follow_64 : decode cX3_follow 64 = .ok (.aload_n 0, 1) := by decide +kernel
theorem dX3_follow_65 : decode cX3_follow 65 = .ok (.iload 4, 2) := by decide +kernel
theorem dX3_follow_67 : decode cX3_follow 67 = .ok (.iconst 0, 1) := by decide +kernel
theorem dX3_follow_68 : decode cX3_follow 68 = .ok (.invokevirtual 109, 3) := by decide +kernel
theorem dX3_follow_71 : decode cX3_follow 71 = .ok (.aload_n 0, 1) := by decide +kernel
theorem dX3_follow_72 : decode cX3_follow 72 = .ok (.iload 5, 2) := by decide +kernel
theorem dX3_follow_74 : decode cX3_follow 74 = .ok (.iconst 1, 1) := by decide +kernel
theorem dX3_follow_75 : decode cX3_follow 75 = .ok (.invokevirtual 109, 3) := by decide +kernel
theorem dX3_follow_78 : decode cX3_follow 78 = .ok (.iinc 3 1, 3) := by decide +kernel
theorem dX3_follow_81 : decode cX3_follow 81 = .ok (.goto (-79), 3) := by decide +kernel
theorem dX3_follow_84 : decode cX3_follow 84 = .ok (.return_, 1) := by decide +kernel
theorem dX3_entriesLedBy_0 : decode cX3_entriesLedBy 0 = .ok (.iconst 0, 1) := by decide +kernel
theorem dX3_entriesLedBy_1 : decode cX3_entriesLedBy 1 = .ok (.istore_n 2, 1) := by decide +kernel
theorem dX3_entriesLedBy_2 : decode cX3_entriesLedBy 2 = .ok (.iconst 0, 1) := by decide +kernel
theorem dX3_entriesLedBy_3 : decode cX3_entriesLedBy 3 = .ok (.istore_n 3, 1) := by decide +kernel
theorem dX3_entriesLedBy_4 : decode cX3_entriesLedBy 4 = .ok (.iload_n 3, 1) := by decide +kernel
theorem dX3_entriesLedBy_5 : decode cX3_entriesLedBy 5 = .ok (.aload_n 0, 1) := by decide +kernel
theorem dX3_entriesLedBy_6 : decode cX3_entriesLedBy 6 = .ok (.getfield 21, 3) := by decide +kernel
theorem dX3_entriesLedBy_9 : decode cX3_entriesLedBy 9 = .ok (.getfield 113, 3) := by decide +kernel
theorem dX3_entriesLedBy_12 : decode cX3_entriesLedBy 12 = .ok (.if_icmp .ge 33, 3) := by decide +kernel
theorem dX3_entriesLedBy_15 : decode cX3_entriesLedBy 15 = .ok (.aload_n 0, 1) := by decide +kernel
theorem dX3_entriesLedBy_16 : decode cX3_entriesLedBy 16 = .ok (.getfield 12, 3) := by decide +kernel
theorem dX3_entriesLedBy_19 : decode cX3_entriesLedBy 19 = .ok (.aload_n 0, 1) := by decide +kernel
theorem dX3_entriesLedBy_20 : decode cX3_entriesLedBy 20 = .ok (.getfield 21, 3) := by decide +kernel
theorem dX3_entriesLedBy_23 : decode cX3_entriesLedBy 23 = .ok (.getfield 114, 3) := by decide +kernel
theorem dX3_entriesLedBy_26 : decode cX3_entriesLedBy 26 = .ok (.iload_n 3, 1) := by decide +kernel
theorem dX3_entriesLedBy_27 : decode cX3_entriesLedBy 27 = .ok (.iaload, 1) := by decide +kernel
theorem dX3_entriesLedBy_28 : decode cX3_entriesLedBy 28 = .ok (.iconst 1, 1) := by decide +kernel
theorem dX3_entriesLedBy_29 : decode cX3_entriesLedBy 29 = .ok (.invokevirtual 117, 3) := by decide +kernel
theorem dX3_entriesLedBy_32 : decode cX3_entriesLedBy 32 = .ok (.iload_n 1, 1) := by decide +kernel
theorem dX3_entriesLedBy_33 : decode cX3_entriesLedBy 33 = .ok (.if_icmp .ne 6, 3) := by decide +kernel
theorem dX3_entriesLedBy_36 : decode cX3_entriesLedBy 36 = .ok (.iinc 2 1, 3) := by decide +kernel
theorem dX3_entriesLedBy_39 : decode cX3_entriesLedBy 39 = .ok (.iinc 3 1, 3) := by decide +kernel
theorem dX3_entriesLedBy_42 : decode cX3_entriesLedBy 42 = .ok (.goto (-38), 3) := by decide +kernel
theorem dX3_entriesLedBy_45 : decode cX3_entriesLedBy 45 = .ok (.iload_n 2, 1) := by decide +kernel
theorem dX3_entriesLedBy_46 : decode cX3_entriesLedBy 46 = .ok (.ireturn, 1) := by decide +kernel
theorem dX3_unitsAhead_0 : decode cX3_unitsAhead 0 = .ok (.aload_n 0, 1) := by decide +kernel
theorem dX3_unitsAhead_1 : decode cX3_unitsAhead 1 = .ok (.getfield 35, 3) := by decide +kernel
theorem dX3_unitsAhead_4 : decode cX3_unitsAhead 4 = .ok (.istore 4, 2) := by decide +kernel
theorem dX3_unitsAhead_6 : decode cX3_unitsAhead 6 = .ok (.aload_n 0, 1) := by decide +kernel
theorem dX3_unitsAhead_7 : decode cX3_unitsAhead 7 = .ok (.getfield 42, 3) := by decide +kernel
theorem dX3_unitsAhead_10 : decode cX3_unitsAhead 10 = .ok (.istore 5, 2) := by decide +kernel
theorem dX3_unitsAhead_12 : decode cX3_unitsAhead 12 = .ok (.aload_n 0, 1) := by decide +kernel
theorem dX3_unitsAhead_13 : decode cX3_unitsAhead 13 = .ok (.getfield 45, 3) := by decide +kernel
theorem dX3_unitsAhead_16 : decode cX3_unitsAhead 16 = .ok (.istore 6, 2) := by decide +kernel
theorem dX3_unitsAhead_18 : decode cX3_unitsAhead 18 = .ok (.aload_n 0, 1) := by decide +kernel
theorem dX3_unitsAhead_19 : decode cX3_unitsAhead 19 = .ok (.getfield 28, 3) := by decide +kernel
theorem dX3_unitsAhead_22 : decode cX3_unitsAhead 22 = .ok (.getfield 71, 3) := by decide +kernel
theorem dX3_unitsAhead_25 : decode cX3_unitsAhead 25 = .ok (.istore 7, 2) := by decide +kernel
theorem dX3_unitsAhead_27 : decode cX3_unitsAhead 27 = .ok (.aload_n 0, 1) := by decide +kernel
theorem dX3_unitsAhead_28 : decode cX3_unitsAhead 28 = .ok (.getfield 32, 3) := by decide +kernel
theorem dX3_unitsAhead_31 : decode cX3_unitsAhead 31 = .ok (.getfield 71, 3) := by decide +kernel
theorem dX3_unitsAhead_34 : decode cX3_unitsAhead 34 = .ok (.istore 8, 2) := by decide +kernel
theorem dX3_unitsAhead_36 : decode cX3_unitsAhead 36 = .ok (.iconst 1, 1) := by decide +kernel
theorem dX3_unitsAhead_37 : decode cX3_unitsAhead 37 = .ok (.istore 9, 2) := by decide +kernel
theorem dX3_unitsAhead_39 : decode cX3_unitsAhead 39 = .ok (.iload 9, 2) := by decide +kernel
theorem dX3_unitsAhead_41 : decode cX3_unitsAhead 41 = .ok (.sipush 999, 3) := by decide +kernel
theorem dX3_unitsAhead_44 : decode cX3_unitsAhead 44 = .ok (.if_icmp .gt 142, 3) := by decide +kernel
theorem dX3_unitsAhead_47 : decode cX3_unitsAhead 47 = .ok (.iconst 0, 1) := by decide +kernel
theorem dX3_unitsAhead_48 : decode cX3_unitsAhead 48 = .ok (.istore 10, 2) := by decide +kernel
theorem dX3_unitsAhead_50 : decode cX3_unitsAhead 50 = .ok (.iload 4, 2) := by decide +kernel
theorem dX3_unitsAhead_52 : decode cX3_unitsAhead 52 = .ok (.iconst 1, 1) := by decide +kernel
theorem dX3_unitsAhead_53 : decode cX3_unitsAhead 53 = .ok (.if_icmp .ne 35, 3) := by decide +kernel
theorem dX3_unitsAhead_56 : decode cX3_unitsAhead 56 = .ok (.iinc 5 1, 3) := by decide +kernel
theorem dX3_unitsAhead_59 : decode cX3_unitsAhead 59 = .ok (.iload 5, 2) := by decide +kernel
theorem dX3_unitsAhead_61 : decode cX3_unitsAhead 61 = .ok (.bipush 48, 2) := by decide +kernel
theorem dX3_unitsAhead_63 : decode cX3_unitsAhead 63 = .ok (.if_icmp .lt 7, 3) := by decide +kernel
theorem dX3_unitsAhead_66 : decode cX3_unitsAhead 66 = .ok (.iconst 1, 1) := by decide +kernel
theorem dX3_unitsAhead_67 : decode cX3_unitsAhead 67 = .ok (.goto 4, 3) := by decide +kernel
theorem dX3_unitsAhead_70 : decode cX3_unitsAhead 70 = .ok (.iconst 0, 1) := by decide +kernel
theorem dX3_unitsAhead_71 : decode cX3_unitsAhead 71 = .ok (.istore 10, 2) := by decide +kernel
theorem dX3_unitsAhead_73 : decode cX3_unitsAhead 73 = .ok (.iload 10, 2) := by decide +kernel
theorem dX3_unitsAhead_75 : decode cX3_unitsAhead 75 = .ok (.ifCond .eq 7, 3) := by decide +kernel
theorem dX3_unitsAhead_78 : decode cX3_unitsAhead 78 = .ok (.iconst 2, 1) := by decide +kernel
theorem dX3_unitsAhead_79 : decode cX3_unitsAhead 79 = .ok (.goto 4, 3) := by decide +kernel
theorem dX3_unitsAhead_82 : decode cX3_unitsAhead 82 = .ok (.iconst 1, 1) := by decide +kernel
theorem dX3_unitsAhead_83 : decode cX3_unitsAhead 83 = .ok (.istore 4, 2) := by decide +kernel
theorem dX3_unitsAhead_85 : decode cX3_unitsAhead 85 = .ok (.goto 51, 3) := by decide +kernel
theorem dX3_unitsAhead_88 : decode cX3_unitsAhead 88 = .ok (.iload 7, 2) := by decide +kernel
theorem dX3_unitsAhead_90 : decode cX3_unitsAhead 90 = .ok (.ifCond .le 9, 3) := by decide +kernel
theorem dX3_unitsAhead_93 : decode cX3_unitsAhead 93 = .ok (.iinc 7 (-1), 3) := by decide +kernel
theorem dX3_unitsAhead_96 : decode cX3_unitsAhead 96 = .ok (.goto 40, 3) := by decide +kernel
theorem dX3_unitsAhead_99 : decode cX3_unitsAhead 99 = .ok (.iload 4, 2) := by decide +kernel
theorem dX3_unitsAhead_101 : decode cX3_unitsAhead 101 = .ok (.iconst 3, 1) := by decide +kernel
theorem dX3_unitsAhead_102 : decode cX3_unitsAhead 102 = .ok (.if_icmp .eq 15, 3) := by decide +kernel
theorem dX3_unitsAhead_105 : decode cX3_unitsAhead 105 = .ok (.iload 8, 2) := by decide +kernel
theorem dX3_unitsAhead_107 : decode cX3_unitsAhead 107 = .ok (.iload_n 2, 1) := by decide +kernel
theorem dX3_unitsAhead_108 : decode cX3_unitsAhead 108 = .ok (.if_icmp .le 12, 3) := by decide +kernel
theorem dX3_unitsAhead_111 : decode cX3_unitsAhead 111 = .ok (.iload 6, 2) := by decide +kernel
theorem dX3_unitsAhead_113 : decode cX3_unitsAhead 113 = .ok (.iload_n 3, 1) := by decide +kernel
theorem dX3_unitsAhead_114 : decode cX3_unitsAhead 114 = .ok (.if_icmp .lt 6, 3) := by decide +kernel
theorem dX3_unitsAhead_117 : decode cX3_unitsAhead 117 = .ok (.iload 9, 2) := by decide +kernel
theorem dX3_unitsAhead_119 : decode cX3_unitsAhead 119 = .ok (.ireturn, 1) := by decide +kernel
theorem dX3_unitsAhead_120 : decode cX3_unitsAhead 120 = .ok (.iconst 1, 1) := by decide +kernel
theorem dX3_unitsAhead_121 : decode cX3_unitsAhead 121 = .ok (.istore 10, 2) := by decide +kernel
theorem dX3_unitsAhead_123 : decode cX3_unitsAhead 123 = .ok (.iload 8, 2) := by decide +kernel
theorem dX3_unitsAhead_125 : decode cX3_unitsAhead 125 = .ok (.iload_n 2, 1) := by decide +kernel
theorem dX3_unitsAhead_126 : decode cX3_unitsAhead 126 = .ok (.if_icmp .gt 7, 3) := by decide +kernel
theorem dX3_unitsAhead_129 : decode cX3_unitsAhead 129 = .ok (.iconst 3, 1) := by decide +kernel
theorem dX3_unitsAhead_130 : decode cX3_unitsAhead 130 = .ok (.goto 4, 3) := by decide +kernel
theorem dX3_unitsAhead_133 : decode cX3_unitsAhead 133 = .ok (.iconst 2, 1) := by decide +kernel
theorem dX3_unitsAhead_134 : decode cX3_unitsAhead 134 = .ok (.istore 4, 2) := by decide +kernel
theorem dX3_unitsAhead_136 : decode cX3_unitsAhead 136 = .ok (.iload 10, 2) := by decide +kernel
theorem dX3_unitsAhead_138 : decode cX3_unitsAhead 138 = .ok (.ifCond .eq 26, 3) := by decide +kernel
theorem dX3_unitsAhead_141 : decode cX3_unitsAhead 141 = .ok (.iload 8, 2) := by decide +kernel
theorem dX3_unitsAhead_143 : decode cX3_unitsAhead 143 = .ok (.istore 7, 2) := by decide +kernel
theorem dX3_unitsAhead_145 : decode cX3_unitsAhead 145 = .ok (.iconst 0, 1) := by decide +kernel
theorem dX3_unitsAhead_146 : decode cX3_unitsAhead 146 = .ok (.istore 8, 2) := by decide +kernel
theorem dX3_unitsAhead_148 : decode cX3_unitsAhead 148 = .ok (.iload 6, 2) := by decide +kernel
theorem dX3_unitsAhead_150 : decode cX3_unitsAhead 150 = .ok (.iload 4, 2) := by decide +kernel
theorem dX3_unitsAhead_152 : decode cX3_unitsAhead 152 = .ok (.iconst 3, 1) := by decide +kernel
theorem dX3_unitsAhead_153 : decode cX3_unitsAhead 153 = .ok (.if_icmp .ne 7, 3) := by decide +kernel
theorem dX3_unitsAhead_156 : decode cX3_unitsAhead 156 = .ok (.iconst 0, 1) := by decide +kernel
theorem dX3_unitsAhead_157 : decode cX3_unitsAhead 157 = .ok (.goto 4, 3) := by decide +kernel
theorem dX3_unitsAhead_160 : decode cX3_unitsAhead 160 = .ok (.iconst 1, 1) := by decide +kernel
theorem dX3_unitsAhead_161 : decode cX3_unitsAhead 161 = .ok (.iadd, 1) := by decide +kernel
theorem dX3_unitsAhead_162 : decode cX3_unitsAhead 162 = .ok (.istore 6, 2) := by decide +kernel
theorem dX3_unitsAhead_164 : decode cX3_unitsAhead 164 = .ok (.iload 8, 2) := by decide +kernel
theorem dX3_unitsAhead_166 : decode cX3_unitsAhead 166 = .ok (.iload 4, 2) := by decide +kernel
theorem dX3_unitsAhead_168 : decode cX3_unitsAhead 168 = .ok (.iconst 3, 1) := by decide +kernel
theorem dX3_unitsAhead_169 : decode cX3_unitsAhead 169 = .ok (.if_icmp .ne 7, 3) := by decide +kernel
theorem dX3_unitsAhead_172 : decode cX3_unitsAhead 172 = .ok (.iconst 0, 1) := by decide +kernel
theorem dX3_unitsAhead_173 : decode cX3_unitsAhead 173 = .ok (.goto 4, 3) := by decide +kernel
theorem dX3_unitsAhead_176 : decode cX3_unitsAhead 176 = .ok (.iload_n 1, 1) := by decide +kernel
theorem dX3_unitsAhead_177 : decode cX3_unitsAhead 177 = .ok (.iadd, 1) := by decide +kernel
theorem dX3_unitsAhead_178 : decode cX3_unitsAhead 178 = .ok (.istore 8, 2) := by decide +kernel
theorem dX3_unitsAhead_180 : decode cX3_unitsAhead 180 = .ok (.iinc 9 1, 3) := by decide +kernel
theorem dX3_unitsAhead_183 : decode cX3_unitsAhead 183 = .ok (.goto (-144), 3) := by decide +kernel
theorem dX3_unitsAhead_186 : decode cX3_unitsAhead 186 = .ok (.iconst (-1), 1) := by decide +kernel
theorem dX3_unitsAhead_187 : decode cX3_unitsAhead 187 = .ok (.ireturn, 1) := by decide +kernel
theorem dX3_clearAll_0 : decode cX3_clearAll 0 = .ok (.aload_n 0, 1) := by decide +kernel
theorem dX3_clearAll_1 : decode cX3_clearAll 1 = .ok (.iconst 0, 1) := by decide +kernel
theorem dX3_clearAll_2 : decode cX3_clearAll 2 = .ok (.putfield 35, 3) := by decide +kernel
theorem dX3_clearAll_5 : decode cX3_clearAll 5 = .ok (.aload_n 0, 1) := by decide +kernel
theorem dX3_clearAll_6 : decode cX3_clearAll 6 = .ok (.iconst 0, 1) := by decide +kernel
theorem dX3_clearAll_7 : decode cX3_clearAll 7 = .ok (.putfield 39, 3) := by decide +kernel
theorem dX3_clearAll_10 : decode cX3_clearAll 10 = .ok (.aload_n 0, 1) := by decide +kernel
theorem dX3_clearAll_11 : decode cX3_clearAll 11 = .ok (.iconst 0, 1) := by decide +kernel
theorem dX3_clearAll_12 : decode cX3_clearAll 12 = .ok (.putfield 42, 3) := by decide +kernel
theorem dX3_clearAll_15 : decode cX3_clearAll 15 = .ok (.aload_n 0, 1) := by decide +kernel
theorem dX3_clearAll_16 : decode cX3_clearAll 16 = .ok (.iconst 0, 1) := by decide +kernel
theorem dX3_clearAll_17 : decode cX3_clearAll 17 = .ok (.putfield 45, 3) := by decide +kernel
theorem dX3_clearAll_20 : decode cX3_clearAll 20 = .ok (.aload_n 0, 1) := by decide +kernel
theorem dX3_clearAll_21 : decode cX3_clearAll 21 = .ok (.getfield 12, 3) := by decide +kernel
theorem dX3_clearAll_24 : decode cX3_clearAll 24 = .ok (.invokevirtual 120, 3) := by decide +kernel
theorem dX3_clearAll_27 : decode cX3_clearAll 27 = .ok (.aload_n 0, 1) := by decide +kernel
theorem dX3_clearAll_28 : decode cX3_clearAll 28 = .ok (.getfield 21, 3) := by decide +kernel
theorem dX3_clearAll_31 : decode cX3_clearAll 31 = .ok (.invokevirtual 121, 3) := by decide +kernel
theorem dX3_clearAll_34 : decode cX3_clearAll 34 = .ok (.aload_n 0, 1) := by decide +kernel
theorem dX3_clearAll_35 : decode cX3_clearAll 35 = .ok (.getfield 28, 3) := by decide +kernel
theorem dX3_clearAll_38 : decode cX3_clearAll 38 = .ok (.invokevirtual 122, 3) := by decide +kernel
theorem dX3_clearAll_41 : decode cX3_clearAll 41 = .ok (.aload_n 0, 1) := by decide +kernel
theorem dX3_clearAll_42 : decode cX3_clearAll 42 = .ok (.getfield 32, 3) := by decide +kernel
theorem dX3_clearAll_45 : decode cX3_clearAll 45 = .ok (.invokevirtual 122, 3) := by decide +kernel
theorem dX3_clearAll_48 : decode cX3_clearAll 48 = .ok (.return_, 1) := by decide +kernel
theorem dX3_scanRow_0 : decode cX3_scanRow 0 = .ok (.aload_n 0, 1) := by decide +kernel
theorem dX3_scanRow_1 : decode cX3_scanRow 1 = .ok (.getfield 12, 3) := by decide +kernel
theorem dX3_scanRow_4 : decode cX3_scanRow 4 = .ok (.aload_n 1, 1) := by decide +kernel
theorem dX3_scanRow_5 : decode cX3_scanRow 5 = .ok (.aload_n 0, 1) := by decide +kernel
theorem dX3_scanRow_6 : decode cX3_scanRow 6 = .ok (.getfield 42, 3) := by decide +kernel
theorem dX3_scanRow_9 : decode cX3_scanRow 9 = .ok (.aload_n 0, 1) := by decide +kernel
theorem dX3_scanRow_10 : decode cX3_scanRow 10 = .ok (.getfield 39, 3) := by decide +kernel
theorem dX3_scanRow_13 : decode cX3_scanRow 13 = .ok (.invokevirtual 123, 3) := by decide +kernel
theorem dX3_scanRow_16 : decode cX3_scanRow 16 = .ok (.aload_n 0, 1) := by decide +kernel
theorem dX3_scanRow_17 : decode cX3_scanRow 17 = .ok (.getfield 42, 3) := by decide +kernel
theorem dX3_scanRow_20 : decode cX3_scanRow 20 = .ok (.invokevirtual 101, 3) := by decide +kernel
theorem dX3_scanRow_23 : decode cX3_scanRow 23 = .ok (.istore_n 2, 1) := by decide +kernel
theorem dX3_scanRow_24 : decode cX3_scanRow 24 = .ok (.iload_n 2, 1) := by decide +kernel
theorem dX3_scanRow_25 : decode cX3_scanRow 25 = .ok (.iconst (-1), 1) := by decide +kernel
theorem dX3_scanRow_26 : decode cX3_scanRow 26 = .ok (.if_icmp .eq 11, 3) := by decide +kernel
theorem dX3_scanRow_29 : decode cX3_scanRow 29 = .ok (.aload_n 0, 1) := by decide +kernel
theorem dX3_scanRow_30 : decode cX3_scanRow 30 = .ok (.getfield 21, 3) := by decide +kernel
theorem dX3_scanRow_33 : decode cX3_scanRow 33 = .ok (.iload_n 2, 1) := by decide +kernel
theorem dX3_scanRow_34 : decode cX3_scanRow 34 = .ok (.invokevirtual 126, 3) := by decide +kernel
theorem dX3_scanRow_37 : decode cX3_scanRow 37 = .ok (.aload_n 0, 1) := by decide +kernel
theorem dX3_scanRow_38 : decode cX3_scanRow 38 = .ok (.dup, 1) := by decide +kernel
theorem dX3_scanRow_39 : decode cX3_scanRow 39 = .ok (.getfield 42, 3) := by decide +kernel
theorem dX3_scanRow_42 : decode cX3_scanRow 42 = .ok (.iconst 1, 1) := by decide +kernel
theorem dX3_scanRow_43 : decode cX3_scanRow 43 = .ok (.iadd, 1) := by decide +kernel
theorem dX3_scanRow_44 : decode cX3_scanRow 44 = .ok (.putfield 42, 3) := by decide +kernel
theorem dX3_scanRow_47 : decode cX3_scanRow 47 = .ok (.aload_n 0, 1) := by decide +kernel
theorem dX3_scanRow_48 : decode cX3_scanRow 48 = .ok (.getfield 42, 3) := by decide +kernel
theorem dX3_scanRow_51 : decode cX3_scanRow 51 = .ok (.bipush 48, 2) := by decide +kernel
theorem dX3_scanRow_53 : decode cX3_scanRow 53 = .ok (.if_icmp .lt 7, 3) := by decide +kernel
theorem dX3_scanRow_56 : decode cX3_scanRow 56 = .ok (.aload_n 0, 1) := by decide +kernel
theorem dX3_scanRow_57 : decode cX3_scanRow 57 = .ok (.invokevirtual 130, 3) := by decide +kernel
theorem dX3_scanRow_60 : decode cX3_scanRow 60 = .ok (.return_, 1) := by decide +kernel
theorem dX3_endRound_0 : decode cX3_endRound 0 = .ok (.aload_n 0, 1) := by decide +kernel
theorem dX3_endRound_1 : decode cX3_endRound 1 = .ok (.getfield 32, 3) := by decide +kernel
theorem dX3_endRound_4 : decode cX3_endRound 4 = .ok (.getfield 71, 3) := by decide +kernel
theorem dX3_endRound_7 : decode cX3_endRound 7 = .ok (.iload_n 1, 1) := by decide +kernel
theorem dX3_endRound_8 : decode cX3_endRound 8 = .ok (.if_icmp .gt 15, 3) := by decide +kernel
theorem dX3_endRound_11 : decode cX3_endRound 11 = .ok (.aload_n 0, 1) := by decide +kernel
theorem dX3_endRound_12 : decode cX3_endRound 12 = .ok (.iconst 3, 1) := by decide +kernel
theorem dX3_endRound_13 : decode cX3_endRound 13 = .ok (.putfield 35, 3) := by decide +kernel
theorem dX3_endRound_16 : decode cX3_endRound 16 = .ok (.aload_n 0, 1) := by decide +kernel
theorem dX3_endRound_17 : decode cX3_endRound 17 = .ok (.invokevirtual 133, 3) := by decide +kernel
theorem dX3_endRound_20 : decode cX3_endRound 20 = .ok (.goto 23, 3) := by decide +kernel
theorem dX3_endRound_23 : decode cX3_endRound 23 = .ok (.aload_n 0, 1) := by decide +kernel
theorem dX3_endRound_24 : decode cX3_endRound 24 = .ok (.getfield 45, 3) := by decide +kernel
theorem dX3_endRound_27 : decode cX3_endRound 27 = .ok (.iload_n 2, 1) := by decide +kernel
theorem dX3_endRound_28 : decode cX3_endRound 28 = .ok (.if_icmp .lt 11, 3) := by decide +kernel
theorem dX3_endRound_31 : decode cX3_endRound 31 = .ok (.aload_n 0, 1) := by decide +kernel
theorem dX3_endRound_32 : decode cX3_endRound 32 = .ok (.iconst 2, 1) := by decide +kernel
theorem dX3_endRound_33 : decode cX3_endRound 33 = .ok (.invokevirtual 136, 3) := by decide +kernel
theorem dX3_endRound_36 : decode cX3_endRound 36 = .ok (.goto 7, 3) := by decide +kernel
theorem dX3_endRound_39 : decode cX3_endRound 39 = .ok (.aload_n 0, 1) := by decide +kernel
theorem dX3_endRound_40 : decode cX3_endRound 40 = .ok (.invokevirtual 64, 3) := by decide +kernel
theorem dX3_endRound_43 : decode cX3_endRound 43 = .ok (.return_, 1) := by decide +kernel
theorem dX3_nextRound_0 : decode cX3_nextRound 0 = .ok (.aload_n 0, 1) := by decide +kernel
theorem dX3_nextRound_1 : decode cX3_nextRound 1 = .ok (.dup, 1) := by decide +kernel
theorem dX3_nextRound_2 : decode cX3_nextRound 2 = .ok (.getfield 45, 3) := by decide +kernel
theorem dX3_nextRound_5 : decode cX3_nextRound 5 = .ok (.iconst 1, 1) := by decide +kernel
theorem dX3_nextRound_6 : decode cX3_nextRound 6 = .ok (.iadd, 1) := by decide +kernel
theorem dX3_nextRound_7 : decode cX3_nextRound 7 = .ok (.putfield 45, 3) := by decide +kernel
theorem dX3_nextRound_10 : decode cX3_nextRound 10 = .ok (.aload_n 0, 1) := by decide +kernel
theorem dX3_nextRound_11 : decode cX3_nextRound 11 = .ok (.invokevirtual 133, 3) := by decide +kernel
theorem dX3_nextRound_14 : decode cX3_nextRound 14 = .ok (.return_, 1) := by decide +kernel
theorem dX3_turnLogs_0 : decode cX3_turnLogs 0 = .ok (.aload_n 0, 1) := by decide +kernel
theorem dX3_turnLogs_1 : decode cX3_turnLogs 1 = .ok (.getfield 28, 3) := by decide +kernel
theorem dX3_turnLogs_4 : decode cX3_turnLogs 4 = .ok (.aload_n 0, 1) := by decide +kernel
theorem dX3_turnLogs_5 : decode cX3_turnLogs 5 = .ok (.getfield 32, 3) := by decide +kernel
theorem dX3_turnLogs_8 : decode cX3_turnLogs 8 = .ok (.invokevirtual 58, 3) := by decide +kernel
theorem dX3_turnLogs_11 : decode cX3_turnLogs 11 = .ok (.aload_n 0, 1) := by decide +kernel
theorem dX3_turnLogs_12 : decode cX3_turnLogs 12 = .ok (.getfield 32, 3) := by decide +kernel
theorem dX3_turnLogs_15 : decode cX3_turnLogs 15 = .ok (.invokevirtual 122, 3) := by decide +kernel
theorem dX3_turnLogs_18 : decode cX3_turnLogs 18 = .ok (.return_, 1) := by decide +kernel
theorem dX3_carryOutFirst_0 : decode cX3_carryOutFirst 0 = .ok (.aload_n 0, 1) := by decide +kernel
theorem dX3_carryOutFirst_1 : decode cX3_carryOutFirst 1 = .ok (.getfield 28, 3) := by decide +kernel
theorem dX3_carryOutFirst_4 : decode cX3_carryOutFirst 4 = .ok (.iconst 0, 1) := by decide +kernel
theorem dX3_carryOutFirst_5 : decode cX3_carryOutFirst 5 = .ok (.invokevirtual 139, 3) := by decide +kernel
theorem dX3_carryOutFirst_8 : decode cX3_carryOutFirst 8 = .ok (.istore_n 1, 1) := by decide +kernel
theorem dX3_carryOutFirst_9 : decode cX3_carryOutFirst 9 = .ok (.aload_n 0, 1) := by decide +kernel
theorem dX3_carryOutFirst_10 : decode cX3_carryOutFirst 10 = .ok (.iload_n 1, 1) := by decide +kernel
theorem dX3_carryOutFirst_11 : decode cX3_carryOutFirst 11 = .ok (.invokestatic 142, 3) := by decide +kernel
theorem dX3_carryOutFirst_14 : decode cX3_carryOutFirst 14 = .ok (.iload_n 1, 1) := by decide +kernel
theorem dX3_carryOutFirst_15 : decode cX3_carryOutFirst 15 = .ok (.invokestatic 145, 3) := by decide +kernel
theorem dX3_carryOutFirst_18 : decode cX3_carryOutFirst 18 = .ok (.invokevirtual 148, 3) := by decide +kernel
theorem dX3_carryOutFirst_21 : decode cX3_carryOutFirst 21 = .ok (.aload_n 0, 1) := by decide +kernel
theorem dX3_carryOutFirst_22 : decode cX3_carryOutFirst 22 = .ok (.getfield 28, 3) := by decide +kernel
theorem dX3_carryOutFirst_25 : decode cX3_carryOutFirst 25 = .ok (.invokevirtual 151, 3) := by decide +kernel
theorem dX3_carryOutFirst_28 : decode cX3_carryOutFirst 28 = .ok (.return_, 1) := by decide +kernel
theorem dX3_carryOut_0 : decode cX3_carryOut 0 = .ok (.iload_n 2, 1) := by decide +kernel
theorem dX3_carryOut_1 : decode cX3_carryOut 1 = .ok (.ifCond .eq 14, 3) := by decide +kernel
theorem dX3_carryOut_4 : decode cX3_carryOut 4 = .ok (.aload_n 0, 1) := by decide +kernel
theorem dX3_carryOut_5 : decode cX3_carryOut 5 = .ok (.getfield 21, 3) := by decide +kernel
theorem dX3_carryOut_8 : decode cX3_carryOut 8 = .ok (.iload_n 1, 1) := by decide +kernel
theorem dX3_carryOut_9 : decode cX3_carryOut 9 = .ok (.invokevirtual 126, 3) := by decide +kernel
theorem dX3_carryOut_12 : decode cX3_carryOut 12 = .ok (.goto 11, 3) := by decide +kernel
theorem dX3_carryOut_15 : decode cX3_carryOut 15 = .ok (.aload_n 0, 1) := by decide +kernel
theorem dX3_carryOut_16 : decode cX3_carryOut 16 = .ok (.getfield 21, 3) := by decide +kernel
theorem dX3_carryOut_19 : decode cX3_carryOut 19 = .ok (.iload_n 1, 1) := by decide +kernel
theorem dX3_carryOut_20 : decode cX3_carryOut 20 = .ok (.invokevirtual 154, 3) := by decide +kernel
theorem dX3_carryOut_23 : decode cX3_carryOut 23 = .ok (.return_, 1) := by decide +kernel
theorem dX3_keepTrue_0 : decode cX3_keepTrue 0 = .ok (.iload_n 1, 1) := by decide +kernel
theorem dX3_keepTrue_1 : decode cX3_keepTrue 1 = .ok (.iconst (-1), 1) := by decide +kernel
theorem dX3_keepTrue_2 : decode cX3_keepTrue 2 = .ok (.if_icmp .eq 10, 3) := by decide +kernel
theorem dX3_keepTrue_5 : decode cX3_keepTrue 5 = .ok (.aload_n 0, 1) := by decide +kernel
theorem dX3_keepTrue_6 : decode cX3_keepTrue 6 = .ok (.getfield 35, 3) := by decide +kernel
theorem dX3_keepTrue_9 : decode cX3_keepTrue 9 = .ok (.ifCond .ne 4, 3) := by decide +kernel
theorem dX3_keepTrue_12 : decode cX3_keepTrue 12 = .ok (.return_, 1) := by decide +kernel
theorem dX3_keepTrue_13 : decode cX3_keepTrue 13 = .ok (.aload_n 0, 1) := by decide +kernel
theorem dX3_keepTrue_14 : decode cX3_keepTrue 14 = .ok (.getfield 35, 3) := by decide +kernel
theorem dX3_keepTrue_17 : decode cX3_keepTrue 17 = .ok (.iconst 4, 1) := by decide +kernel
theorem dX3_keepTrue_18 : decode cX3_keepTrue 18 = .ok (.if_icmp .ne 12, 3) := by decide +kernel
theorem dX3_keepTrue_21 : decode cX3_keepTrue 21 = .ok (.aload_n 0, 1) := by decide +kernel
theorem dX3_keepTrue_22 : decode cX3_keepTrue 22 = .ok (.iload_n 1, 1) := by decide +kernel
theorem dX3_keepTrue_23 : decode cX3_keepTrue 23 = .ok (.iload_n 2, 1) := by decide +kernel
theorem dX3_keepTrue_24 : decode cX3_keepTrue 24 = .ok (.invokevirtual 148, 3) := by decide +kernel
theorem dX3_keepTrue_27 : decode cX3_keepTrue 27 = .ok (.goto 30, 3) := by decide +kernel
theorem dX3_keepTrue_30 : decode cX3_keepTrue 30 = .ok (.aload_n 0, 1) := by decide +kernel
theorem dX3_keepTrue_31 : decode cX3_keepTrue 31 = .ok (.getfield 32, 3) := by decide +kernel
theorem dX3_keepTrue_34 : decode cX3_keepTrue 34 = .ok (.invokevirtual 157, 3) := by decide +kernel
theorem dX3_keepTrue_37 : decode cX3_keepTrue 37 = .ok (.ifCond .eq 11, 3) := by decide +kernel
theorem dX3_keepTrue_40 : decode cX3_keepTrue 40 = .ok (.aload_n 0, 1) := by decide +kernel
theorem dX3_keepTrue_41 : decode cX3_keepTrue 41 = .ok (.iconst 3, 1) := by decide +kernel
theorem dX3_keepTrue_42 : decode cX3_keepTrue 42 = .ok (.invokevirtual 136, 3) := by decide +kernel
theorem dX3_keepTrue_45 : decode cX3_keepTrue 45 = .ok (.goto 12, 3) := by decide +kernel
theorem dX3_keepTrue_48 : decode cX3_keepTrue 48 = .ok (.aload_n 0, 1) := by decide +kernel
theorem dX3_keepTrue_49 : decode cX3_keepTrue 49 = .ok (.getfield 32, 3) := by decide +kernel
theorem dX3_keepTrue_52 : decode cX3_keepTrue 52 = .ok (.iload_n 1, 1) := by decide +kernel
theorem dX3_keepTrue_53 : decode cX3_keepTrue 53 = .ok (.iload_n 2, 1) := by decide +kernel
theorem dX3_keepTrue_54 : decode cX3_keepTrue 54 = .ok (.invokevirtual 160, 3) := by decide +kernel
theorem dX3_keepTrue_57 : decode cX3_keepTrue 57 = .ok (.return_, 1) := by decide +kernel
theorem dX4_init_0 : decode cX4_init 0 = .ok (.aload_n 0, 1) := by decide +kernel
theorem dX4_init_1 : decode cX4_init 1 = .ok (.invokespecial 3, 3) := by decide +kernel
theorem dX4_init_4 : decode cX4_init 4 = .ok (.aload_n 0, 1) := by decide +kernel
theorem dX4_init_5 : decode cX4_init 5 = .ok (.iconst 3, 1) := by decide +kernel
theorem dX4_init_6 : decode cX4_init 6 = .ok (.newarray .int, 2) := by decide +kernel
theorem dX4_init_8 : decode cX4_init 8 = .ok (.putfield 9, 3) := by decide +kernel
theorem dX4_init_11 : decode cX4_init 11 = .ok (.aload_n 0, 1) := by decide +kernel
theorem dX4_init_12 : decode cX4_init 12 = .ok (.iconst 3, 1) := by decide +kernel
theorem dX4_init_13 : decode cX4_init 13 = .ok (.newarray .boolean, 2) := by decide +kernel
theorem dX4_init_15 : decode cX4_init 15 = .ok (.putfield 15, 3) := by decide +kernel
theorem dX4_init_18 : decode cX4_init 18 = .ok (.return_, 1) := by decide +kernel
theorem dX4_clearAll_0 : decode cX4_clearAll 0 = .ok (.aload_n 0, 1) := by decide +kernel
theorem dX4_clearAll_1 : decode cX4_clearAll 1 = .ok (.iconst 0, 1) := by decide +kernel
theorem dX4_clearAll_2 : decode cX4_clearAll 2 = .ok (.putfield 19, 3) := by decide +kernel
theorem dX4_clearAll_5 : decode cX4_clearAll 5 = .ok (.return_, 1) := by decide +kernel
theorem dX4_copyFrom_0 : decode cX4_copyFrom 0 = .ok (.iconst 0, 1) := by decide +kernel
theorem dX4_copyFrom_1 : decode cX4_copyFrom 1 = .ok (.istore_n 2, 1) := by decide +kernel
theorem dX4_copyFrom_2 : decode cX4_copyFrom 2 = .ok (.iload_n 2, 1) := by decide +kernel
theorem dX4_copyFrom_3 : decode cX4_copyFrom 3 = .ok (.iconst 3, 1) := by decide +kernel
theorem dX4_copyFrom_4 : decode cX4_copyFrom 4 = .ok (.if_icmp .ge 33, 3) := by decide +kernel
theorem dX4_copyFrom_7 : decode cX4_copyFrom 7 = .ok (.aload_n 0, 1) := by decide +kernel
theorem dX4_copyFrom_8 : decode cX4_copyFrom 8 = .ok (.getfield 9, 3) := by decide +kernel
theorem dX4_copyFrom_11 : decode cX4_copyFrom 11 = .ok (.iload_n 2, 1) := by decide +kernel
theorem dX4_copyFrom_12 : decode cX4_copyFrom 12 = .ok (.aload_n 1, 1) := by decide +kernel
theorem dX4_copyFrom_13 : decode cX4_copyFrom 13 = .ok (.getfield 9, 3) := by decide +kernel
theorem dX4_copyFrom_16 : decode cX4_copyFrom 16 = .ok (.iload_n 2, 1) := by decide +kernel
theorem dX4_copyFrom_17 : decode cX4_copyFrom 17 = .ok (.iaload, 1) := by decide +kernel
theorem dX4_copyFrom_18 : decode cX4_copyFrom 18 = .ok (.iastore, 1) := by decide +kernel
theorem dX4_copyFrom_19 : decode cX4_copyFrom 19 = .ok (.aload_n 0, 1) := by decide +kernel
theorem dX4_copyFrom_20 : decode cX4_copyFrom 20 = .ok (.getfield 15, 3) := by decide +kernel
theorem dX4_copyFrom_23 : decode cX4_copyFrom 23 = .ok (.iload_n 2, 1) := by decide +kernel
theorem dX4_copyFrom_24 : decode cX4_copyFrom 24 = .ok (.aload_n 1, 1) := by decide +kernel
theorem dX4_copyFrom_25 : decode cX4_copyFrom 25 = .ok (.getfield 15, 3) := by decide +kernel
theorem dX4_copyFrom_28 : decode cX4_copyFrom 28 = .ok (.iload_n 2, 1) := by decide +kernel
theorem dX4_copyFrom_29 : decode cX4_copyFrom 29 = .ok (.baload, 1) := by decide +kernel
theorem dX4_copyFrom_30 : decode cX4_copyFrom 30 = .ok (.bastore, 1) := by decide +kernel
theorem dX4_copyFrom_31 : decode cX4_copyFrom 31 = .ok (.iinc 2 1, 3) := by decide +kernel
theorem dX4_copyFrom_34 : decode cX4_copyFrom 34 = .ok (.goto (-32), 3) := by decide +kernel
theorem dX4_copyFrom_37 : decode cX4_copyFrom 37 = .ok (.aload_n 0, 1) := by decide +kernel
theorem dX4_copyFrom_38 : decode cX4_copyFrom 38 = .ok (.aload_n 1, 1) := by decide +kernel
theorem dX4_copyFrom_39 : decode cX4_copyFrom 39 = .ok (.getfield 19, 3) := by decide +kernel
theorem dX4_copyFrom_42 : decode cX4_copyFrom 42 = .ok (.putfield 19, 3) := by decide +kernel
theorem dX4_copyFrom_45 : decode cX4_copyFrom 45 = .ok (.return_, 1) := by decide +kernel
theorem dX4_append_0 : decode cX4_append 0 = .ok (.aload_n 0, 1) := by decide +kernel
theorem dX4_append_1 : decode cX4_append 1 = .ok (.getfield 19, 3) := by decide +kernel
theorem dX4_append_4 : decode cX4_append 4 = .ok (.iconst 3, 1) := by decide +kernel
theorem dX4_append_5 : decode cX4_append 5 = .ok (.if_icmp .ge 33, 3) := by decide +kernel
theorem dX4_append_8 : decode cX4_append 8 = .ok (.aload_n 0, 1) := by decide +kernel
theorem dX4_append_9 : decode cX4_append 9 = .ok (.getfield 9, 3) := by decide +kernel
theorem dX4_append_12 : decode cX4_append 12 = .ok (.aload_n 0, 1) := by decide +kernel
theorem dX4_append_13 : decode cX4_append 13 = .ok (.getfield 19, 3) := by decide +kernel
theorem dX4_append_16 : decode cX4_append 16 = .ok (.iload_n 1, 1) := by decide +kernel
theorem dX4_append_17 : decode cX4_append 17 = .ok (.iastore, 1) := by decide +kernel
theorem dX4_append_18 : decode cX4_append 18 = .ok (.aload_n 0, 1) := by decide +kernel
theorem dX4_append_19 : decode cX4_append 19 = .ok (.getfield 15, 3) := by decide +kernel
theorem dX4_append_22 : decode cX4_append 22 = .ok (.aload_n 0, 1) := by decide +kernel
theorem dX4_append_23 : decode cX4_append 23 = .ok (.getfield 19, 3) := by decide +kernel
theorem dX4_append_26 : decode cX4_append 26 = .ok (.iload_n 2, 1) := by decide +kernel
theorem dX4_append_27 : decode cX4_append 27 = .ok (.bastore, 1) := by decide +kernel
theorem dX4_append_28 : decode cX4_append 28 = .ok (.aload_n 0, 1) := by decide +kernel
theorem dX4_append_29 : decode cX4_append 29 = .ok (.dup, 1) := by decide +kernel
theorem dX4_append_30 : decode cX4_append 30 = .ok (.getfield 19, 3) := by decide +kernel
theorem dX4_append_33 : decode cX4_append 33 = .ok (.iconst 1, 1) := by decide +kernel
theorem dX4_append_34 : decode cX4_append 34 = .ok (.iadd, 1) := by decide +kernel
theorem dX4_append_35 : decode cX4_append 35 = .ok (.putfield 19, 3) := by decide +kernel
theorem dX4_append_38 : decode cX4_append 38 = .ok (.return_, 1) := by decide +kernel
theorem dX4_placeOf_0 : decode cX4_placeOf 0 = .ok (.iconst 0, 1) := by decide +kernel
theorem dX4_placeOf_1 : decode cX4_placeOf 1 = .ok (.istore_n 2, 1) := by decide +kernel
theorem dX4_placeOf_2 : decode cX4_placeOf 2 = .ok (.iload_n 2, 1) := by decide +kernel
theorem dX4_placeOf_3 : decode cX4_placeOf 3 = .ok (.aload_n 0, 1) := by decide +kernel
theorem dX4_placeOf_4 : decode cX4_placeOf 4 = .ok (.getfield 19, 3) := by decide +kernel
theorem dX4_placeOf_7 : decode cX4_placeOf 7 = .ok (.if_icmp .ge 21, 3) := by decide +kernel
theorem dX4_placeOf_10 : decode cX4_placeOf 10 = .ok (.aload_n 0, 1) := by decide +kernel
theorem dX4_placeOf_11 : decode cX4_placeOf 11 = .ok (.getfield 9, 3) := by decide +kernel
theorem dX4_placeOf_14 : decode cX4_placeOf 14 = .ok (.iload_n 2, 1) := by decide +kernel
theorem dX4_placeOf_15 : decode cX4_placeOf 15 = .ok (.iaload, 1) := by decide +kernel
theorem dX4_placeOf_16 : decode cX4_placeOf 16 = .ok (.iload_n 1, 1) := by decide +kernel
theorem dX4_placeOf_17 : decode cX4_placeOf 17 = .ok (.if_icmp .ne 5, 3) := by decide +kernel
theorem dX4_placeOf_20 : decode cX4_placeOf 20 = .ok (.iload_n 2, 1) := by decide +kernel
theorem dX4_placeOf_21 : decode cX4_placeOf 21 = .ok (.ireturn, 1) := by decide +kernel
theorem dX4_placeOf_22 : decode cX4_placeOf 22 = .ok (.iinc 2 1, 3) := by decide +kernel
theorem dX4_placeOf_25 : decode cX4_placeOf 25 = .ok (.goto (-23), 3) := by decide +kernel
theorem dX4_placeOf_28 : decode cX4_placeOf 28 = .ok (.iconst (-1), 1) := by decide +kernel
theorem dX4_placeOf_29 : decode cX4_placeOf 29 = .ok (.ireturn, 1) := by decide +kernel
theorem dX4_beginsWith_0 : decode cX4_beginsWith 0 = .ok (.aload_n 1, 1) := by decide +kernel
theorem dX4_beginsWith_1 : decode cX4_beginsWith 1 = .ok (.getfield 19, 3) := by decide +kernel
theorem dX4_beginsWith_4 : decode cX4_beginsWith 4 = .ok (.aload_n 0, 1) := by decide +kernel
theorem dX4_beginsWith_5 : decode cX4_beginsWith 5 = .ok (.getfield 19, 3) := by decide +kernel
theorem dX4_beginsWith_8 : decode cX4_beginsWith 8 = .ok (.if_icmp .le 5, 3) := by decide +kernel
theorem dX4_beginsWith_11 : decode cX4_beginsWith 11 = .ok (.iconst 0, 1) := by decide +kernel
theorem dX4_beginsWith_12 : decode cX4_beginsWith 12 = .ok (.ireturn, 1) := by decide +kernel
theorem dX4_beginsWith_13 : decode cX4_beginsWith 13 = .ok (.iconst 0, 1) := by decide +kernel
theorem dX4_beginsWith_14 : decode cX4_beginsWith 14 = .ok (.istore_n 2, 1) := by decide +kernel
theorem dX4_beginsWith_15 : decode cX4_beginsWith 15 = .ok (.iload_n 2, 1) := by decide +kernel
theorem dX4_beginsWith_16 : decode cX4_beginsWith 16 = .ok (.aload_n 1, 1) := by decide +kernel
theorem dX4_beginsWith_17 : decode cX4_beginsWith 17 = .ok (.getfield 19, 3) := by decide +kernel
theorem dX4_beginsWith_20 : decode cX4_beginsWith 20 = .ok (.if_icmp .ge 41, 3) := by decide +kernel
theorem dX4_beginsWith_23 : decode cX4_beginsWith 23 = .ok (.aload_n 0, 1) := by decide +kernel
theorem dX4_beginsWith_24 : decode cX4_beginsWith 24 = .ok (.getfield 9, 3) := by decide +kernel
theorem dX4_beginsWith_27 : decode cX4_beginsWith 27 = .ok (.iload_n 2, 1) := by decide +kernel
theorem dX4_beginsWith_28 : decode cX4_beginsWith 28 = .ok (.iaload, 1) := by decide +kernel
theorem dX4_beginsWith_29 : decode cX4_beginsWith 29 = .ok (.aload_n 1, 1) := by decide +kernel
theorem dX4_beginsWith_30 : decode cX4_beginsWith 30 = .ok (.getfield 9, 3) := by decide +kernel
theorem dX4_beginsWith_33 : decode cX4_beginsWith 33 = .ok (.iload_n 2, 1) := by decide +kernel
theorem dX4_beginsWith_34 : decode cX4_beginsWith 34 = .ok (.iaload, 1) := by decide +kernel
theorem dX4_beginsWith_35 : decode cX4_beginsWith 35 = .ok (.if_icmp .ne 18, 3) := by decide +kernel
theorem dX4_beginsWith_38 : decode cX4_beginsWith 38 = .ok (.aload_n 0, 1) := by decide +kernel
theorem dX4_beginsWith_39 : decode cX4_beginsWith 39 = .ok (.getfield 15, 3) := by decide +kernel
theorem dX4_beginsWith_42 : decode cX4_beginsWith 42 = .ok (.iload_n 2, 1) := by decide +kernel
theorem dX4_beginsWith_43 : decode cX4_beginsWith 43 = .ok (.baload, 1) := by decide +kernel
theorem dX4_beginsWith_44 : decode cX4_beginsWith 44 = .ok (.aload_n 1, 1) := by decide +kernel
theorem dX4_beginsWith_45 : decode cX4_beginsWith 45 = .ok (.getfield 15, 3) := by decide +kernel
theorem dX4_beginsWith_48 : decode cX4_beginsWith 48 = .ok (.iload_n 2, 1) := by decide +kernel
theorem dX4_beginsWith_49 : decode cX4_beginsWith 49 = .ok (.baload, 1) := by decide +kernel
theorem dX4_beginsWith_50 : decode cX4_beginsWith 50 = .ok (.if_icmp .eq 5, 3) := by decide +kernel
theorem dX4_beginsWith_53 : decode cX4_beginsWith 53 = .ok (.iconst 0, 1) := by decide +kernel
theorem dX4_beginsWith_54 : decode cX4_beginsWith 54 = .ok (.ireturn, 1) := by decide +kernel
theorem dX4_beginsWith_55 : decode cX4_beginsWith 55 = .ok (.iinc 2 1, 3) := by decide +kernel
theorem dX4_beginsWith_58 : decode cX4_beginsWith 58 = .ok (.goto (-43), 3) := by decide +kernel
theorem dX4_beginsWith_61 : decode cX4_beginsWith 61 = .ok (.iconst 1, 1) := by decide +kernel
theorem dX4_beginsWith_62 : decode cX4_beginsWith 62 = .ok (.ireturn, 1) := by decide +kernel
theorem dX4_rankOf_0 : decode cX4_rankOf 0 = .ok (.iconst 0, 1) := by decide +kernel
theorem dX4_rankOf_1 : decode cX4_rankOf 1 = .ok (.istore_n 2, 1) := by decide +kernel
theorem dX4_rankOf_2 : decode cX4_rankOf 2 = .ok (.iconst 0, 1) := by decide +kernel
theorem dX4_rankOf_3 : decode cX4_rankOf 3 = .ok (.istore_n 3, 1) := by decide +kernel
theorem dX4_rankOf_4 : decode cX4_rankOf 4 = .ok (.iload_n 3, 1) := by decide +kernel
theorem dX4_rankOf_5 : decode cX4_rankOf 5 = .ok (.iconst 3, 1) := by decide +kernel
theorem dX4_rankOf_6 : decode cX4_rankOf 6 = .ok (.if_icmp .ge 46, 3) := by decide +kernel
theorem dX4_rankOf_9 : decode cX4_rankOf 9 = .ok (.iload_n 3, 1) := by decide +kernel
theorem dX4_rankOf_10 : decode cX4_rankOf 10 = .ok (.aload_n 0, 1) := by decide +kernel
theorem dX4_rankOf_11 : decode cX4_rankOf 11 = .ok (.getfield 19, 3) := by decide +kernel
theorem dX4_rankOf_14 : decode cX4_rankOf 14 = .ok (.if_icmp .ge 21, 3) := by decide +kernel
theorem dX4_rankOf_17 : decode cX4_rankOf 17 = .ok (.aload_n 0, 1) := by decide +kernel
theorem dX4_rankOf_18 : decode cX4_rankOf 18 = .ok (.iload_n 1, 1) := by decide +kernel
theorem dX4_rankOf_19 : decode cX4_rankOf 19 = .ok (.aload_n 0, 1) := by decide +kernel
theorem dX4_rankOf_20 : decode cX4_rankOf 20 = .ok (.getfield 9, 3) := by decide +kernel
theorem dX4_rankOf_23 : decode cX4_rankOf 23 = .ok (.iload_n 3, 1) := by decide +kernel
theorem dX4_rankOf_24 : decode cX4_rankOf 24 = .ok (.iaload, 1) := by decide +kernel
theorem dX4_rankOf_25 : decode cX4_rankOf 25 = .ok (.invokestatic 23, 3) := by decide +kernel
theorem dX4_rankOf_28 : decode cX4_rankOf 28 = .ok (.iload_n 3, 1) := by decide +kernel
theorem dX4_rankOf_29 : decode cX4_rankOf 29 = .ok (.invokevirtual 27, 3) := by decide +kernel
theorem dX4_rankOf_32 : decode cX4_rankOf 32 = .ok (.goto 4, 3) := by decide +kernel
theorem dX4_rankOf_35 : decode cX4_rankOf 35 = .ok (.iconst 0, 1) := by decide +kernel
theorem dX4_rankOf_36 : decode cX4_rankOf 36 = .ok (.istore 4, 2) := by decide +kernel
theorem dX4_rankOf_38 : decode cX4_rankOf 38 = .ok (.iload_n 2, 1) := by decide +kernel
theorem dX4_rankOf_39 : decode cX4_rankOf 39 = .ok (.bipush 100, 2) := by decide +kernel
theorem dX4_rankOf_41 : decode cX4_rankOf 41 = .ok (.imul, 1) := by decide +kernel
theorem dX4_rankOf_42 : decode cX4_rankOf 42 = .ok (.iload 4, 2) := by decide +kernel
theorem dX4_rankOf_44 : decode cX4_rankOf 44 = .ok (.iadd, 1) := by decide +kernel
theorem dX4_rankOf_45 : decode cX4_rankOf 45 = .ok (.istore_n 2, 1) := by decide +kernel
theorem dX4_rankOf_46 : decode cX4_rankOf 46 = .ok (.iinc 3 1, 3) := by decide +kernel
theorem dX4_rankOf_49 : decode cX4_rankOf 49 = .ok (.goto (-45), 3) := by decide +kernel
theorem dX4_rankOf_52 : decode cX4_rankOf 52 = .ok (.iload_n 2, 1) := by decide +kernel
theorem dX4_rankOf_53 : decode cX4_rankOf 53 = .ok (.ireturn, 1) := by decide +kernel
theorem dX4_keyPart_0 : decode cX4_keyPart 0 = .ok (.aload_n 0, 1) := by decide +kernel
theorem dX4_keyPart_1 : decode cX4_keyPart 1 = .ok (.iload_n 1, 1) := by decide +kernel
theorem dX4_keyPart_2 : decode cX4_keyPart 2 = .ok (.iload_n 2, 1) := by decide +kernel
theorem dX4_keyPart_3 : decode cX4_keyPart 3 = .ok (.invokestatic 23, 3) := by decide +kernel
theorem dX4_keyPart_6 : decode cX4_keyPart 6 = .ok (.iload_n 2, 1) := by decide +kernel
theorem dX4_keyPart_7 : decode cX4_keyPart 7 = .ok (.invokevirtual 27, 3) := by decide +kernel
theorem dX4_keyPart_10 : decode cX4_keyPart 10 = .ok (.ireturn, 1) := by decide +kernel
theorem dX4_turned_0 : decode cX4_turned 0 = .ok (.aload_n 0, 1) := by decide +kernel
theorem dX4_turned_1 : decode cX4_turned 1 = .ok (.getfield 15, 3) := by decide +kernel
theorem dX4_turned_4 : decode cX4_turned 4 = .ok (.iload_n 2, 1) := by decide +kernel
theorem dX4_turned_5 : decode cX4_turned 5 = .ok (.baload, 1) := by decide +kernel
theorem dX4_turned_6 : decode cX4_turned 6 = .ok (.ifCond .eq 10, 3) := by decide +kernel
theorem dX4_turned_9 : decode cX4_turned 9 = .ok (.bipush 99, 2) := by decide +kernel
theorem dX4_turned_11 : decode cX4_turned 11 = .ok (.iload_n 1, 1) := by decide +kernel
theorem dX4_turned_12 : decode cX4_turned 12 = .ok (.isub, 1) := by decide +kernel
theorem dX4_turned_13 : decode cX4_turned 13 = .ok (.goto 4, 3) := by decide +kernel
theorem dX4_turned_16 : decode cX4_turned 16 = .ok (.iload_n 1, 1) := by decide +kernel
theorem dX4_turned_17 : decode cX4_turned 17 = .ok (.ireturn, 1) := by decide +kernel
theorem dX5_init_0 : decode cX5_init 0 = .ok (.aload_n 0, 1) := by decide +kernel
theorem dX5_init_1 : decode cX5_init 1 = .ok (.invokespecial 3, 3) := by decide +kernel
theorem dX5_init_4 : decode cX5_init 4 = .ok (.aload_n 0, 1) := by decide +kernel
theorem dX5_init_5 : decode cX5_init 5 = .ok (.iconst 4, 1) := by decide +kernel
theorem dX5_init_6 : decode cX5_init 6 = .ok (.anewarray 9, 3) := by decide +kernel
theorem dX5_init_9 : decode cX5_init 9 = .ok (.putfield 11, 3) := by decide +kernel
theorem dX5_init_12 : decode cX5_init 12 = .ok (.aload_n 0, 1) := by decide +kernel
theorem dX5_init_13 : decode cX5_init 13 = .ok (.new 17, 3) := by decide +kernel
theorem dX5_init_16 : decode cX5_init 16 = .ok (.dup, 1) := by decide +kernel
theorem dX5_init_17 : decode cX5_init 17 = .ok (.invokespecial 19, 3) := by decide +kernel
theorem dX5_init_20 : decode cX5_init 20 = .ok (.putfield 20, 3) := by decide +kernel
theorem dX5_init_23 : decode cX5_init 23 = .ok (.iconst 0, 1) := by decide +kernel
theorem dX5_init_24 : decode cX5_init 24 = .ok (.istore_n 1, 1) := by decide +kernel
theorem dX5_init_25 : decode cX5_init 25 = .ok (.iload_n 1, 1) := by decide +kernel
theorem dX5_init_26 : decode cX5_init 26 = .ok (.iconst 4, 1) := by decide +kernel
theorem dX5_init_27 : decode cX5_init 27 = .ok (.if_icmp .ge 22, 3) := by decide +kernel
theorem dX5_init_30 : decode cX5_init 30 = .ok (.aload_n 0, 1) := by decide +kernel
theorem dX5_init_31 : decode cX5_init 31 = .ok (.getfield 11, 3) := by decide +kernel
theorem dX5_init_34 : decode cX5_init 34 = .ok (.iload_n 1, 1) := by decide +kernel
theorem dX5_init_35 : decode cX5_init 35 = .ok (.new 9, 3) := by decide +kernel
theorem dX5_init_38 : decode cX5_init 38 = .ok (.dup, 1) := by decide +kernel
theorem dX5_init_39 : decode cX5_init 39 = .ok (.invokespecial 24, 3) := by decide +kernel
theorem dX5_init_42 : decode cX5_init 42 = .ok (.aastore, 1) := by decide +kernel
theorem dX5_init_43 : decode cX5_init 43 = .ok (.iinc 1 1, 3) := by decide +kernel
theorem dX5_init_46 : decode cX5_init 46 = .ok (.goto (-21), 3) := by decide +kernel
theorem dX5_init_49 : decode cX5_init 49 = .ok (.return_, 1) := by decide +kernel
theorem dX5_clearAll_0 : decode cX5_clearAll 0 = .ok (.aload_n 0, 1) := by decide +kernel
theorem dX5_clearAll_1 : decode cX5_clearAll 1 = .ok (.iconst 0, 1) := by decide +kernel
theorem dX5_clearAll_2 : decode cX5_clearAll 2 = .ok (.putfield 25, 3) := by decide +kernel
theorem dX5_clearAll_5 : decode cX5_clearAll 5 = .ok (.aload_n 0, 1) := by decide +kernel
theorem dX5_clearAll_6 : decode cX5_clearAll 6 = .ok (.getfield 20, 3) := by decide +kernel
theorem dX5_clearAll_9 : decode cX5_clearAll 9 = .ok (.invokevirtual 29, 3) := by decide +kernel
theorem dX5_clearAll_12 : decode cX5_clearAll 12 = .ok (.return_, 1) := by decide +kernel
theorem dX5_holdsFor_0 : decode cX5_holdsFor 0 = .ok (.iconst 0, 1) := by decide +kernel
theorem dX5_holdsFor_1 : decode cX5_holdsFor 1 = .ok (.istore_n 2, 1) := by decide +kernel
theorem dX5_holdsFor_2 : decode cX5_holdsFor 2 = .ok (.iload_n 2, 1) := by decide +kernel
theorem dX5_holdsFor_3 : decode cX5_holdsFor 3 = .ok (.aload_n 0, 1) := by decide +kernel
theorem dX5_holdsFor_4 : decode cX5_holdsFor 4 = .ok (.getfield 25, 3) := by decide +kernel
theorem dX5_holdsFor_7 : decode cX5_holdsFor 7 = .ok (.if_icmp .ge 24, 3) := by decide +kernel
theorem dX5_holdsFor_10 : decode cX5_holdsFor 10 = .ok (.aload_n 0, 1) := by decide +kernel
theorem dX5_holdsFor_11 : decode cX5_holdsFor 11 = .ok (.getfield 11, 3) := by decide +kernel
theorem dX5_holdsFor_14 : decode cX5_holdsFor 14 = .ok (.iload_n 2, 1) := by decide +kernel
theorem dX5_holdsFor_15 : decode cX5_holdsFor 15 = .ok (.aaload, 1) := by decide +kernel
theorem dX5_holdsFor_16 : decode cX5_holdsFor 16 = .ok (.iload_n 1, 1) := by decide +kernel
theorem dX5_holdsFor_17 : decode cX5_holdsFor 17 = .ok (.invokevirtual 32, 3) := by decide +kernel
theorem dX5_holdsFor_20 : decode cX5_holdsFor 20 = .ok (.ifCond .ne 5, 3) := by decide +kernel
theorem dX5_holdsFor_23 : decode cX5_holdsFor 23 = .ok (.iconst 0, 1) := by decide +kernel
theorem dX5_holdsFor_24 : decode cX5_holdsFor 24 = .ok (.ireturn, 1) := by decide +kernel
theorem dX5_holdsFor_25 : decode cX5_holdsFor 25 = .ok (.iinc 2 1, 3) := by decide +kernel
theorem dX5_holdsFor_28 : decode cX5_holdsFor 28 = .ok (.goto (-26), 3) := by decide +kernel
theorem dX5_holdsFor_31 : decode cX5_holdsFor 31 = .ok (.iconst 1, 1) := by decide +kernel
theorem dX5_holdsFor_32 : decode cX5_holdsFor 32 = .ok (.ireturn, 1) := by decide +kernel
theorem dX5_isServedBy_0 : decode cX5_isServedBy 0 = .ok (.aload_n 1, 1) := by decide +kernel
theorem dX5_isServedBy_1 : decode cX5_isServedBy 1 = .ok (.getfield 36, 3) := by decide +kernel
theorem dX5_isServedBy_4 : decode cX5_isServedBy 4 = .ok (.iconst 4, 1) := by decide +kernel
theorem dX5_isServedBy_5 : decode cX5_isServedBy 5 = .ok (.if_icmp .eq 5, 3) := by decide +kernel
theorem dX5_isServedBy_8 : decode cX5_isServedBy 8 = .ok (.iconst 0, 1) := by decide +kernel
theorem dX5_isServedBy_9 : decode cX5_isServedBy 9 = .ok (.ireturn, 1) := by decide +kernel
theorem dX5_isServedBy_10 : decode cX5_isServedBy 10 = .ok (.aload_n 1, 1) := by decide +kernel
theorem dX5_isServedBy_11 : decode cX5_isServedBy 11 = .ok (.getfield 41, 3) := by decide +kernel
theorem dX5_isServedBy_14 : decode cX5_isServedBy 14 = .ok (.getfield 45, 3) := by decide +kernel
theorem dX5_isServedBy_17 : decode cX5_isServedBy 17 = .ok (.ifCond .eq 19, 3) := by decide +kernel
theorem dX5_isServedBy_20 : decode cX5_isServedBy 20 = .ok (.aload_n 0, 1) := by decide +kernel
theorem dX5_isServedBy_21 : decode cX5_isServedBy 21 = .ok (.aload_n 1, 1) := by decide +kernel
theorem dX5_isServedBy_22 : decode cX5_isServedBy 22 = .ok (.getfield 41, 3) := by decide +kernel
theorem dX5_isServedBy_25 : decode cX5_isServedBy 25 = .ok (.getfield 51, 3) := by decide +kernel
theorem dX5_isServedBy_28 : decode cX5_isServedBy 28 = .ok (.invokevirtual 55, 3) := by decide +kernel
theorem dX5_isServedBy_31 : decode cX5_isServedBy 31 = .ok (.ifCond .ne 5, 3) := by decide +kernel
theorem dX5_isServedBy_34 : decode cX5_isServedBy 34 = .ok (.iconst 0, 1) := by decide +kernel
theorem dX5_isServedBy_35 : decode cX5_isServedBy 35 = .ok (.ireturn, 1) := by decide +kernel
theorem dX5_isServedBy_36 : decode cX5_isServedBy 36 = .ok (.aload_n 0, 1) := by decide +kernel
theorem dX5_isServedBy_37 : decode cX5_isServedBy 37 = .ok (.aload_n 1, 1) := by decide +kernel
theorem dX5_isServedBy_38 : decode cX5_isServedBy 38 = .ok (.getfield 41, 3) := by decide +kernel
theorem dX5_isServedBy_41 : decode cX5_isServedBy 41 = .ok (.getfield 59, 3) := by decide +kernel
theorem dX5_isServedBy_44 : decode cX5_isServedBy 44 = .ok (.invokevirtual 62, 3) := by decide +kernel
theorem dX5_isServedBy_47 : decode cX5_isServedBy 47 = .ok (.ifCond .le 7, 3) := by decide +kernel
theorem dX5_isServedBy_50 : decode cX5_isServedBy 50 = .ok (.iconst 1, 1) := by decide +kernel
theorem dX5_isServedBy_51 : decode cX5_isServedBy 51 = .ok (.goto 4, 3) := by decide +kernel
theorem dX5_isServedBy_54 : decode cX5_isServedBy 54 = .ok (.iconst 0, 1) := by decide +kernel
theorem dX5_isServedBy_55 : decode cX5_isServedBy 55 = .ok (.ireturn, 1) := by decide +kernel
theorem dX5_stretchSize_0 : decode cX5_stretchSize 0 = .ok (.aload_n 0, 1) := by decide +kernel
theorem dX5_stretchSize_1 : decode cX5_stretchSize 1 = .ok (.aload_n 1, 1) := by decide +kernel
theorem dX5_stretchSize_2 : decode cX5_stretchSize 2 = .ok (.invokevirtual 66, 3) := by decide +kernel
theorem dX5_stretchSize_5 : decode cX5_stretchSize 5 = .ok (.istore_n 2, 1) := by decide +kernel
theorem dX5_stretchSize_6 : decode cX5_stretchSize 6 = .ok (.iconst 0, 1) := by decide +kernel
theorem dX5_stretchSize_7 : decode cX5_stretchSize 7 = .ok (.istore_n 3, 1) := by decide +kernel
theorem dX5_stretchSize_8 : decode cX5_stretchSize 8 = .ok (.iconst 0, 1) := by decide +kernel
theorem dX5_stretchSize_9 : decode cX5_stretchSize 9 = .ok (.istore 4, 2) := by decide +kernel
theorem dX5_stretchSize_11 : decode cX5_stretchSize 11 = .ok (.iload 4, 2) := by decide +kernel
theorem dX5_stretchSize_13 : decode cX5_stretchSize 13 = .ok (.aload_n 0, 1) := by decide +kernel
theorem dX5_stretchSize_14 : decode cX5_stretchSize 14 = .ok (.getfield 25, 3) := by decide +kernel
theorem dX5_stretchSize_17 : decode cX5_stretchSize 17 = .ok (.if_icmp .ge 27, 3) := by decide +kernel
theorem dX5_stretchSize_20 : decode cX5_stretchSize 20 = .ok (.aload_n 0, 1) := by decide +kernel
theorem dX5_stretchSize_21 : decode cX5_stretchSize 21 = .ok (.getfield 11, 3) := by decide +kernel
theorem dX5_stretchSize_24 : decode cX5_stretchSize 24 = .ok (.iload 4, 2) := by decide +kernel
theorem dX5_stretchSize_26 : decode cX5_stretchSize 26 = .ok (.aaload, 1) := by decide +kernel
theorem dX5_stretchSize_27 : decode cX5_stretchSize 27 = .ok (.aload_n 1, 1) := by decide +kernel
theorem dX5_stretchSize_28 : decode cX5_stretchSize 28 = .ok (.iload_n 2, 1) := by decide +kernel
theorem dX5_stretchSize_29 : decode cX5_stretchSize 29 = .ok (.invokestatic 69, 3) := by decide +kernel
theorem dX5_stretchSize_32 : decode cX5_stretchSize 32 = .ok (.ifCond .eq 6, 3) := by decide +kernel
theorem dX5_stretchSize_35 : decode cX5_stretchSize 35 = .ok (.iinc 3 1, 3) := by decide +kernel
theorem dX5_stretchSize_38 : decode cX5_stretchSize 38 = .ok (.iinc 4 1, 3) := by decide +kernel
theorem dX5_stretchSize_41 : decode cX5_stretchSize 41 = .ok (.goto (-30), 3) := by decide +kernel
theorem dX5_stretchSize_44 : decode cX5_stretchSize 44 = .ok (.iload_n 3, 1) := by decide +kernel
theorem dX5_stretchSize_45 : decode cX5_stretchSize 45 = .ok (.ireturn, 1) := by decide +kernel
theorem dX5_readsBy_0 : decode cX5_readsBy 0 = .ok (.aload_n 1, 1) := by decide +kernel
theorem dX5_readsBy_1 : decode cX5_readsBy 1 = .ok (.getfield 41, 3) := by decide +kernel
theorem dX5_readsBy_4 : decode cX5_readsBy 4 = .ok (.getfield 59, 3) := by decide +kernel
theorem dX5_readsBy_7 : decode cX5_readsBy 7 = .ok (.astore_n 2, 1) := by decide +kernel
theorem dX5_readsBy_8 : decode cX5_readsBy 8 = .ok (.aload_n 0, 1) := by decide +kernel
theorem dX5_readsBy_9 : decode cX5_readsBy 9 = .ok (.aload_n 2, 1) := by decide +kernel
theorem dX5_readsBy_10 : decode cX5_readsBy 10 = .ok (.invokevirtual 66, 3) := by decide +kernel
theorem dX5_readsBy_13 : decode cX5_readsBy 13 = .ok (.istore_n 3, 1) := by decide +kernel
theorem dX5_readsBy_14 : decode cX5_readsBy 14 = .ok (.iconst 1, 1) := by decide +kernel
theorem dX5_readsBy_15 : decode cX5_readsBy 15 = .ok (.istore 4, 2) := by decide +kernel
theorem dX5_readsBy_17 : decode cX5_readsBy 17 = .ok (.iconst 0, 1) := by decide +kernel
theorem dX5_readsBy_18 : decode cX5_readsBy 18 = .ok (.istore 5, 2) := by decide +kernel
theorem dX5_readsBy_20 : decode cX5_readsBy 20 = .ok (.iload 5, 2) := by decide +kernel
theorem dX5_readsBy_22 : decode cX5_readsBy 22 = .ok (.aload_n 1, 1) := by decide +kernel
theorem dX5_readsBy_23 : decode cX5_readsBy 23 = .ok (.getfield 73, 3) := by decide +kernel
theorem dX5_readsBy_26 : decode cX5_readsBy 26 = .ok (.getfield 77, 3) := by decide +kernel
theorem dX5_readsBy_29 : decode cX5_readsBy 29 = .ok (.if_icmp .ge 34, 3) := by decide +kernel
theorem dX5_readsBy_32 : decode cX5_readsBy 32 = .ok (.aload_n 0, 1) := by decide +kernel
theorem dX5_readsBy_33 : decode cX5_readsBy 33 = .ok (.aload_n 1, 1) := by decide +kernel
theorem dX5_readsBy_34 : decode cX5_readsBy 34 = .ok (.getfield 73, 3) := by decide +kernel
theorem dX5_readsBy_37 : decode cX5_readsBy 37 = .ok (.getfield 80, 3) := by decide +kernel
theorem dX5_readsBy_40 : decode cX5_readsBy 40 = .ok (.iload 5, 2) := by decide +kernel
theorem dX5_readsBy_42 : decode cX5_readsBy 42 = .ok (.iaload, 1) := by decide +kernel
theorem dX5_readsBy_43 : decode cX5_readsBy 43 = .ok (.invokestatic 84, 3) := by decide +kernel
theorem dX5_readsBy_46 : decode cX5_readsBy 46 = .ok (.aload_n 2, 1) := by decide +kernel
theorem dX5_readsBy_47 : decode cX5_readsBy 47 = .ok (.iload_n 3, 1) := by decide +kernel
theorem dX5_readsBy_48 : decode cX5_readsBy 48 = .ok (.invokevirtual 88, 3) := by decide +kernel
theorem dX5_readsBy_51 : decode cX5_readsBy 51 = .ok (.ifCond .eq 6, 3) := by decide +kernel
theorem dX5_readsBy_54 : decode cX5_readsBy 54 = .ok (.iinc 4 1, 3) := by decide +kernel
theorem dX5_readsBy_57 : decode cX5_readsBy 57 = .ok (.iinc 5 1, 3) := by decide +kernel
theorem dX5_readsBy_60 : decode cX5_readsBy 60 = .ok (.goto (-40), 3) := by decide +kernel
theorem dX5_readsBy_63 : decode cX5_readsBy 63 = .ok (.iload 4, 2) := by decide +kernel
theorem dX5_readsBy_65 : decode cX5_readsBy 65 = .ok (.ireturn, 1) := by decide +kernel
theorem dX5_asksFor_0 : decode cX5_asksFor 0 = .ok (.iconst 0, 1) := by decide +kernel
theorem dX5_asksFor_1 : decode cX5_asksFor 1 = .ok (.istore_n 2, 1) := by decide +kernel
theorem dX5_asksFor_2 : decode cX5_asksFor 2 = .ok (.iload_n 2, 1) := by decide +kernel
theorem dX5_asksFor_3 : decode cX5_asksFor 3 = .ok (.aload_n 0, 1) := by decide +kernel
theorem dX5_asksFor_4 : decode cX5_asksFor 4 = .ok (.getfield 25, 3) := by decide +kernel
theorem dX5_asksFor_7 : decode cX5_asksFor 7 = .ok (.if_icmp .ge 24, 3) := by decide +kernel
theorem dX5_asksFor_10 : decode cX5_asksFor 10 = .ok (.aload_n 0, 1) := by decide +kernel
theorem dX5_asksFor_11 : decode cX5_asksFor 11 = .ok (.getfield 11, 3) := by decide +kernel
theorem dX5_asksFor_14 : decode cX5_asksFor 14 = .ok (.iload_n 2, 1) := by decide +kernel
theorem dX5_asksFor_15 : decode cX5_asksFor 15 = .ok (.aaload, 1) := by decide +kernel
theorem dX5_asksFor_16 : decode cX5_asksFor 16 = .ok (.aload_n 1, 1) := by decide +kernel
theorem dX5_asksFor_17 : decode cX5_asksFor 17 = .ok (.invokevirtual 92, 3) := by decide +kernel
theorem dX5_asksFor_20 : decode cX5_asksFor 20 = .ok (.ifCond .eq 5, 3) := by decide +kernel
theorem dX5_asksFor_23 : decode cX5_asksFor 23 = .ok (.iconst 1, 1) := by decide +kernel
theorem dX5_asksFor_24 : decode cX5_asksFor 24 = .ok (.ireturn, 1) := by decide +kernel
theorem dX5_asksFor_25 : decode cX5_asksFor 25 = .ok (.iinc 2 1, 3) := by decide +kernel
theorem dX5_asksFor_28 : decode cX5_asksFor 28 = .ok (.goto (-26), 3) := by decide +kernel
theorem dX5_asksFor_31 : decode cX5_asksFor 31 = .ok (.iconst 0, 1) := by decide +kernel
theorem dX5_asksFor_32 : decode cX5_asksFor 32 = .ok (.ireturn, 1) := by decide +kernel
theorem dX5_stretchColumns_0 : decode cX5_stretchColumns 0 = .ok (.iconst 0, 1) := by decide +kernel
theorem dX5_stretchColumns_1 : decode cX5_stretchColumns 1 = .ok (.istore_n 2, 1) := by decide +kernel
theorem dX5_stretchColumns_2 : decode cX5_stretchColumns 2 = .ok (.iload_n 2, 1) := by decide +kernel
theorem dX5_stretchColumns_3 : decode cX5_stretchColumns 3 = .ok (.aload_n 1, 1) := by decide +kernel
theorem dX5_stretchColumns_4 : decode cX5_stretchColumns 4 = .ok (.getfield 95, 3) := by decide +kernel
theorem dX5_stretchColumns_7 : decode cX5_stretchColumns 7 = .ok (.if_icmp .ge 22, 3) := by decide +kernel
theorem dX5_stretchColumns_10 : decode cX5_stretchColumns 10 = .ok (.aload_n 0, 1) := by decide +kernel
theorem dX5_stretchColumns_11 : decode cX5_stretchColumns 11 = .ok (.aload_n 1, 1) := by decide +kernel
theorem dX5_stretchColumns_12 : decode cX5_stretchColumns 12 = .ok (.getfield 96, 3) := by decide +kernel
theorem dX5_stretchColumns_15 : decode cX5_stretchColumns 15 = .ok (.iload_n 2, 1) := by decide +kernel
theorem dX5_stretchColumns_16 : decode cX5_stretchColumns 16 = .ok (.iaload, 1) := by decide +kernel
theorem dX5_stretchColumns_17 : decode cX5_stretchColumns 17 = .ok (.invokevirtual 99, 3) := by decide +kernel
theorem dX5_stretchColumns_20 : decode cX5_stretchColumns 20 = .ok (.ifCond .eq 9, 3) := by decide +kernel
theorem dX5_stretchColumns_23 : decode cX5_stretchColumns 23 = .ok (.iinc 2 1, 3) := by decide +kernel
theorem dX5_stretchColumns_26 : decode cX5_stretchColumns 26 = .ok (.goto (-24), 3) := by decide +kernel
theorem dX5_stretchColumns_29 : decode cX5_stretchColumns 29 = .ok (.iload_n 2, 1) := by decide +kernel
theorem dX5_stretchColumns_30 : decode cX5_stretchColumns 30 = .ok (.iconst 1, 1) := by decide +kernel
theorem dX5_stretchColumns_31 : decode cX5_stretchColumns 31 = .ok (.iadd, 1) := by decide +kernel
theorem dX5_stretchColumns_32 : decode cX5_stretchColumns 32 = .ok (.ireturn, 1) := by decide +kernel
theorem dX5_isAskedByLike_0 : decode cX5_isAskedByLike 0 = .ok (.iconst 0, 1) := by decide +kernel
theorem dX5_isAskedByLike_1 : decode cX5_isAskedByLike 1 = .ok (.istore_n 2, 1) := by decide +kernel
theorem dX5_isAskedByLike_2 : decode cX5_isAskedByLike 2 = .ok (.iload_n 2, 1) := by decide +kernel
theorem dX5_isAskedByLike_3 : decode cX5_isAskedByLike 3 = .ok (.aload_n 0, 1) := by decide +kernel
theorem dX5_isAskedByLike_4 : decode cX5_isAskedByLike 4 = .ok (.getfield 25, 3) := by decide +kernel
theorem dX5_isAskedByLike_7 : decode cX5_isAskedByLike 7 = .ok (.if_icmp .ge 36, 3) := by decide +kernel
theorem dX5_isAskedByLike_10 : decode cX5_isAskedByLike 10 = .ok (.aload_n 0, 1) := by decide +kernel
theorem dX5_isAskedByLike_11 : decode cX5_isAskedByLike 11 = .ok (.getfield 11, 3) := by decide +kernel
theorem dX5_isAskedByLike_14 : decode cX5_isAskedByLike 14 = .ok (.iload_n 2, 1) := by decide +kernel
theorem dX5_isAskedByLike_15 : decode cX5_isAskedByLike 15 = .ok (.aaload, 1) := by decide +kernel
theorem dX5_isAskedByLike_16 : decode cX5_isAskedByLike 16 = .ok (.getfield 102, 3) := by decide +kernel
theorem dX5_isAskedByLike_19 : decode cX5_isAskedByLike 19 = .ok (.iload_n 1, 1) := by decide +kernel
theorem dX5_isAskedByLike_20 : decode cX5_isAskedByLike 20 = .ok (.if_icmp .ne 17, 3) := by decide +kernel
theorem dX5_isAskedByLike_23 : decode cX5_isAskedByLike 23 = .ok (.aload_n 0, 1) := by decide +kernel
theorem dX5_isAskedByLike_24 : decode cX5_isAskedByLike 24 = .ok (.getfield 11, 3) := by decide +kernel
theorem dX5_isAskedByLike_27 : decode cX5_isAskedByLike 27 = .ok (.iload_n 2, 1) := by decide +kernel
theorem dX5_isAskedByLike_28 : decode cX5_isAskedByLike 28 = .ok (.aaload, 1) := by decide +kernel
theorem dX5_isAskedByLike_29 : decode cX5_isAskedByLike 29 = .ok (.getfield 105, 3) := by decide +kernel
theorem dX5_isAskedByLike_32 : decode cX5_isAskedByLike 32 = .ok (.ifCond .ne 5, 3) := by decide +kernel
theorem dX5_isAskedByLike_35 : decode cX5_isAskedByLike 35 = .ok (.iconst 1, 1) := by decide +kernel
theorem dX5_isAskedByLike_36 : decode cX5_isAskedByLike 36 = .ok (.ireturn, 1) := by decide +kernel
theorem dX5_isAskedByLike_37 : decode cX5_isAskedByLike 37 = .ok (.iinc 2 1, 3) := by decide +kernel
theorem dX5_isAskedByLike_40 : decode cX5_isAskedByLike 40 = .ok (.goto (-38), 3) := by decide +kernel
theorem dX5_isAskedByLike_43 : decode cX5_isAskedByLike 43 = .ok (.iconst 0, 1) := by decide +kernel
theorem dX5_isAskedByLike_44 : decode cX5_isAskedByLike 44 = .ok (.ireturn, 1) := by decide +kernel
theorem dX5_isInStretch_0 : decode cX5_isInStretch 0 = .ok (.aload_n 1, 1) := by decide +kernel
theorem dX5_isInStretch_1 : decode cX5_isInStretch 1 = .ok (.aload_n 0, 1) := by decide +kernel
theorem dX5_isInStretch_2 : decode cX5_isInStretch 2 = .ok (.getfield 102, 3) := by decide +kernel
theorem dX5_isInStretch_5 : decode cX5_isInStretch 5 = .ok (.invokevirtual 108, 3) := by decide +kernel
theorem dX5_isInStretch_8 : decode cX5_isInStretch 8 = .ok (.istore_n 3, 1) := by decide +kernel
theorem dX5_isInStretch_9 : decode cX5_isInStretch 9 = .ok (.aload_n 0, 1) := by decide +kernel
theorem dX5_isInStretch_10 : decode cX5_isInStretch 10 = .ok (.getfield 105, 3) := by decide +kernel
theorem dX5_isInStretch_13 : decode cX5_isInStretch 13 = .ok (.iconst 1, 1) := by decide +kernel
theorem dX5_isInStretch_14 : decode cX5_isInStretch 14 = .ok (.if_icmp .eq 17, 3) := by decide +kernel
theorem dX5_isInStretch_17 : decode cX5_isInStretch 17 = .ok (.iload_n 3, 1) := by decide +kernel
theorem dX5_isInStretch_18 : decode cX5_isInStretch 18 = .ok (.iconst (-1), 1) := by decide +kernel
theorem dX5_isInStretch_19 : decode cX5_isInStretch 19 = .ok (.if_icmp .eq 12, 3) := by decide +kernel
theorem dX5_isInStretch_22 : decode cX5_isInStretch 22 = .ok (.iload_n 3, 1) := by decide +kernel
theorem dX5_isInStretch_23 : decode cX5_isInStretch 23 = .ok (.iload_n 2, 1) := by decide +kernel
theorem dX5_isInStretch_24 : decode cX5_isInStretch 24 = .ok (.if_icmp .ge 7, 3) := by decide +kernel
theorem dX5_isInStretch_27 : decode cX5_isInStretch 27 = .ok (.iconst 1, 1) := by decide +kernel
theorem dX5_isInStretch_28 : decode cX5_isInStretch 28 = .ok (.goto 4, 3) := by decide +kernel
theorem dX5_isInStretch_31 : decode cX5_isInStretch 31 = .ok (.iconst 0, 1) := by decide +kernel
theorem dX5_isInStretch_32 : decode cX5_isInStretch 32 = .ok (.ireturn, 1) := by decide +kernel
theorem dX5_isRead_0 : decode cX5_isRead 0 = .ok (.iconst 0, 1) := by decide +kernel
theorem dX5_isRead_1 : decode cX5_isRead 1 = .ok (.istore 4, 2) := by decide +kernel
theorem dX5_isRead_3 : decode cX5_isRead 3 = .ok (.iload 4, 2) := by decide +kernel
theorem dX5_isRead_5 : decode cX5_isRead 5 = .ok (.aload_n 0, 1) := by decide +kernel
theorem dX5_isRead_6 : decode cX5_isRead 6 = .ok (.getfield 25, 3) := by decide +kernel
theorem dX5_isRead_9 : decode cX5_isRead 9 = .ok (.if_icmp .ge 55, 3) := by decide +kernel
theorem dX5_isRead_12 : decode cX5_isRead 12 = .ok (.aload_n 0, 1) := by decide +kernel
theorem dX5_isRead_13 : decode cX5_isRead 13 = .ok (.getfield 11, 3) := by decide +kernel
theorem dX5_isRead_16 : decode cX5_isRead 16 = .ok (.iload 4, 2) := by decide +kernel
theorem dX5_isRead_18 : decode cX5_isRead 18 = .ok (.aaload, 1) := by decide +kernel
theorem dX5_isRead_19 : decode cX5_isRead 19 = .ok (.astore 5, 2) := by decide +kernel
theorem dX5_isRead_21 : decode cX5_isRead 21 = .ok (.aload 5, 2) := by decide +kernel
theorem dX5_isRead_23 : decode cX5_isRead 23 = .ok (.aload_n 2, 1) := by decide +kernel
theorem dX5_isRead_24 : decode cX5_isRead 24 = .ok (.iload_n 3, 1) := by decide +kernel
theorem dX5_isRead_25 : decode cX5_isRead 25 = .ok (.invokestatic 69, 3) := by decide +kernel
theorem dX5_isRead_28 : decode cX5_isRead 28 = .ok (.ifCond .ne 6, 3) := by decide +kernel
theorem dX5_isRead_31 : decode cX5_isRead 31 = .ok (.goto 27, 3) := by decide +kernel
theorem dX5_isRead_34 : decode cX5_isRead 34 = .ok (.aload 5, 2) := by decide +kernel
theorem dX5_isRead_36 : decode cX5_isRead 36 = .ok (.aload_n 2, 1) := by decide +kernel
theorem dX5_isRead_37 : decode cX5_isRead 37 = .ok (.iload_n 1, 1) := by decide +kernel
theorem dX5_isRead_38 : decode cX5_isRead 38 = .ok (.aload_n 2, 1) := by decide +kernel
theorem dX5_isRead_39 : decode cX5_isRead 39 = .ok (.aload 5, 2) := by decide +kernel
theorem dX5_isRead_41 : decode cX5_isRead 41 = .ok (.getfield 102, 3) := by decide +kernel
theorem dX5_isRead_44 : decode cX5_isRead 44 = .ok (.invokevirtual 108, 3) := by decide +kernel
theorem dX5_isRead_47 : decode cX5_isRead 47 = .ok (.invokevirtual 111, 3) := by decide +kernel
theorem dX5_isRead_50 : decode cX5_isRead 50 = .ok (.invokevirtual 115, 3) := by decide +kernel
theorem dX5_isRead_53 : decode cX5_isRead 53 = .ok (.ifCond .ne 5, 3) := by decide +kernel
theorem dX5_isRead_56 : decode cX5_isRead 56 = .ok (.iconst 0, 1) := by decide +kernel
theorem dX5_isRead_57 : decode cX5_isRead 57 = .ok (.ireturn, 1) := by decide +kernel
theorem dX5_isRead_58 : decode cX5_isRead 58 = .ok (.iinc 4 1, 3) := by decide +kernel
theorem dX5_isRead_61 : decode cX5_isRead 61 = .ok (.goto (-58), 3) := by decide +kernel
theorem dX5_isRead_64 : decode cX5_isRead 64 = .ok (.iconst 1, 1) := by decide +kernel
theorem dX5_isRead_65 : decode cX5_isRead 65 = .ok (.ireturn, 1) := by decide +kernel
theorem dX6_init_0 : decode cX6_init 0 = .ok (.aload_n 0, 1) := by decide +kernel
theorem dX6_init_1 : decode cX6_init 1 = .ok (.invokespecial 3, 3) := by decide +kernel
theorem dX6_init_4 : decode cX6_init 4 = .ok (.aload_n 0, 1) := by decide +kernel
theorem dX6_init_5 : decode cX6_init 5 = .ok (.bipush 48, 2) := by decide +kernel
theorem dX6_init_7 : decode cX6_init 7 = .ok (.newarray .int, 2) := by decide +kernel
theorem dX6_init_9 : decode cX6_init 9 = .ok (.putfield 9, 3) := by decide +kernel
theorem dX6_init_12 : decode cX6_init 12 = .ok (.return_, 1) := by decide +kernel
theorem dX6_codeOf_0 : decode cX6_codeOf 0 = .ok (.iload_n 0, 1) := by decide +kernel
theorem dX6_codeOf_1 : decode cX6_codeOf 1 = .ok (.bipush 6, 2) := by decide +kernel
theorem dX6_codeOf_3 : decode cX6_codeOf 3 = .ok (.ishl, 1) := by decide +kernel
theorem dX6_codeOf_4 : decode cX6_codeOf 4 = .ok (.iload_n 1, 1) := by decide +kernel
theorem dX6_codeOf_5 : decode cX6_codeOf 5 = .ok (.ior, 1) := by decide +kernel
theorem dX6_codeOf_6 : decode cX6_codeOf 6 = .ok (.ireturn, 1) := by decide +kernel
theorem dX6_rowIn_0 : decode cX6_rowIn 0 = .ok (.iload_n 0, 1) := by decide +kernel
theorem dX6_rowIn_1 : decode cX6_rowIn 1 = .ok (.bipush 63, 2) := by decide +kernel
theorem dX6_rowIn_3 : decode cX6_rowIn 3 = .ok (.iand, 1) := by decide +kernel
theorem dX6_rowIn_4 : decode cX6_rowIn 4 = .ok (.ireturn, 1) := by decide +kernel
theorem dX6_rankIn_0 : decode cX6_rankIn 0 = .ok (.iload_n 0, 1) := by decide +kernel
theorem dX6_rankIn_1 : decode cX6_rankIn 1 = .ok (.bipush 6, 2) := by decide +kernel
theorem dX6_rankIn_3 : decode cX6_rankIn 3 = .ok (.ishr, 1) := by decide +kernel
theorem dX6_rankIn_4 : decode cX6_rankIn 4 = .ok (.ireturn, 1) := by decide +kernel
theorem dX6_clearAll_0 : decode cX6_clearAll 0 = .ok (.aload_n 0, 1) := by decide +kernel
theorem dX6_clearAll_1 : decode cX6_clearAll 1 = .ok (.iconst 0, 1) := by decide +kernel
theorem dX6_clearAll_2 : decode cX6_clearAll 2 = .ok (.putfield 15, 3) := by decide +kernel
theorem dX6_clearAll_5 : decode cX6_clearAll 5 = .ok (.return_, 1) := by decide +kernel
theorem dX6_copyFrom_0 : decode cX6_copyFrom 0 = .ok (.aload_n 1, 1) := by decide +kernel
theorem dX6_copyFrom_1 : decode cX6_copyFrom 1 = .ok (.getfield 9, 3) := by decide +kernel
theorem dX6_copyFrom_4 : decode cX6_copyFrom 4 = .ok (.iconst 0, 1) := by decide +kernel
theorem dX6_copyFrom_5 : decode cX6_copyFrom 5 = .ok (.aload_n 0, 1) := by decide +kernel
theorem dX6_copyFrom_6 : decode cX6_copyFrom 6 = .ok (.getfield 9, 3) := by decide +kernel
theorem dX6_copyFrom_9 : decode cX6_copyFrom 9 = .ok (.iconst 0, 1) := by decide +kernel
theorem dX6_copyFrom_10 : decode cX6_copyFrom 10 = .ok (.bipush 48, 2) := by decide +kernel
theorem dX6_copyFrom_12 : decode cX6_copyFrom 12 = .ok (.invokestatic 19, 3) := by decide +kernel
theorem dX6_copyFrom_15 : decode cX6_copyFrom 15 = .ok (.aload_n 0, 1) := by decide +kernel
theorem dX6_copyFrom_16 : decode cX6_copyFrom 16 = .ok (.aload_n 1, 1) := by decide +kernel
theorem dX6_copyFrom_17 : decode cX6_copyFrom 17 = .ok (.getfield 15, 3) := by decide +kernel
theorem dX6_copyFrom_20 : decode cX6_copyFrom 20 = .ok (.putfield 15, 3) := by decide +kernel
theorem dX6_copyFrom_23 : decode cX6_copyFrom 23 = .ok (.return_, 1) := by decide +kernel
theorem dX6_include_0 : decode cX6_include 0 = .ok (.aload_n 0, 1) := by decide +kernel
theorem dX6_include_1 : decode cX6_include 1 = .ok (.iload_n 1, 1) := by decide +kernel
theorem dX6_include_2 : decode cX6_include 2 = .ok (.invokevirtual 25, 3) := by decide +kernel
theorem dX6_include_5 : decode cX6_include 5 = .ok (.istore_n 2, 1) := by decide +kernel
theorem dX6_include_6 : decode cX6_include 6 = .ok (.aload_n 0, 1) := by decide +kernel
theorem dX6_include_7 : decode cX6_include 7 = .ok (.getfield 15, 3) := by decide +kernel
theorem dX6_include_10 : decode cX6_include 10 = .ok (.bipush 48, 2) := by decide +kernel
theorem dX6_include_12 : decode cX6_include 12 = .ok (.if_icmp .ge 21, 3) := by decide +kernel
theorem dX6_include_15 : decode cX6_include 15 = .ok (.iload_n 2, 1) := by decide +kernel
theorem dX6_include_16 : decode cX6_include 16 = .ok (.aload_n 0, 1) := by decide +kernel
theorem dX6_include_17 : decode cX6_include 17 = .ok (.getfield 15, 3) := by decide +kernel
theorem dX6_include_20 : decode cX6_include 20 = .ok (.if_icmp .ge 14, 3) := by decide +kernel
theorem dX6_include_23 : decode cX6_include 23 = .ok (.aload_n 0, 1) := by decide +kernel
theorem dX6_include_24 : decode cX6_include 24 = .ok (.getfield 9, 3) := by decide +kernel
theorem dX6_include_27 : decode cX6_include 27 = .ok (.iload_n 2, 1) := by decide +kernel
theorem dX6_include_28 : decode cX6_include 28 = .ok (.iaload, 1) := by decide +kernel
theorem dX6_include_29 : decode cX6_include 29 = .ok (.iload_n 1, 1) := by decide +kernel
theorem dX6_include_30 : decode cX6_include 30 = .ok (.if_icmp .ne 4, 3) := by decide +kernel
theorem dX6_include_33 : decode cX6_include 33 = .ok (.return_, 1) := by decide +kernel
theorem dX6_include_34 : decode cX6_include 34 = .ok (.aload_n 0, 1) := by decide +kernel
theorem dX6_include_35 : decode cX6_include 35 = .ok (.getfield 9, 3) := by decide +kernel
theorem dX6_include_38 : decode cX6_include 38 = .ok (.iload_n 2, 1) := by decide +kernel
theorem dX6_include_39 : decode cX6_include 39 = .ok (.aload_n 0, 1) := by decide +kernel
theorem dX6_include_40 : decode cX6_include 40 = .ok (.getfield 9, 3) := by decide +kernel
theorem dX6_include_43 : decode cX6_include 43 = .ok (.iload_n 2, 1) := by decide +kernel
theorem dX6_include_44 : decode cX6_include 44 = .ok (.iconst 1, 1) := by decide +kernel
theorem dX6_include_45 : decode cX6_include 45 = .ok (.iadd, 1) := by decide +kernel
theorem dX6_include_46 : decode cX6_include 46 = .ok (.aload_n 0, 1) := by decide +kernel
theorem dX6_include_47 : decode cX6_include 47 = .ok (.getfield 15, 3) := by decide +kernel
theorem dX6_include_50 : decode cX6_include 50 = .ok (.iload_n 2, 1) := by decide +kernel
theorem dX6_include_51 : decode cX6_include 51 = .ok (.isub, 1) := by decide +kernel
theorem dX6_include_52 : decode cX6_include 52 = .ok (.invokestatic 19, 3) := by decide +kernel
theorem dX6_include_55 : decode cX6_include 55 = .ok (.aload_n 0, 1) := by decide +kernel
theorem dX6_include_56 : decode cX6_include 56 = .ok (.getfield 9, 3) := by decide +kernel
theorem dX6_include_59 : decode cX6_include 59 = .ok (.iload_n 2, 1) := by decide +kernel
theorem dX6_include_60 : decode cX6_include 60 = .ok (.iload_n 1, 1) := by decide +kernel
theorem dX6_include_61 : decode cX6_include 61 = .ok (.iastore, 1) := by decide +kernel
theorem dX6_include_62 : decode cX6_include 62 = .ok (.aload_n 0, 1) := by decide +kernel
theorem dX6_include_63 : decode cX6_include 63 = .ok (.dup, 1) := by decide +kernel
theorem dX6_include_64 : decode cX6_include 64 = .ok (.getfield 15, 3) := by decide +kernel
theorem dX6_include_67 : decode cX6_include 67 = .ok (.iconst 1, 1) := by decide +kernel
theorem dX6_include_68 : decode cX6_include 68 = .ok (.iadd, 1) := by decide +kernel
theorem dX6_include_69 : decode cX6_include 69 = .ok (.putfield 15, 3) := by decide +kernel
theorem dX6_include_72 : decode cX6_include 72 = .ok (.return_, 1) := by decide +kernel
theorem dX6_exclude_0 : decode cX6_exclude 0 = .ok (.aload_n 0, 1) := by decide +kernel
theorem dX6_exclude_1 : decode cX6_exclude 1 = .ok (.iload_n 1, 1) := by decide +kernel
theorem dX6_exclude_2 : decode cX6_exclude 2 = .ok (.invokevirtual 25, 3) := by decide +kernel
theorem dX6_exclude_5 : decode cX6_exclude 5 = .ok (.istore_n 2, 1) := by decide +kernel
theorem dX6_exclude_6 : decode cX6_exclude 6 = .ok (.iload_n 2, 1) := by decide +kernel
theorem dX6_exclude_7 : decode cX6_exclude 7 = .ok (.aload_n 0, 1) := by decide +kernel
theorem dX6_exclude_8 : decode cX6_exclude 8 = .ok (.getfield 15, 3) := by decide +kernel
theorem dX6_exclude_11 : decode cX6_exclude 11 = .ok (.if_icmp .ge 13, 3) := by decide +kernel
theorem dX6_exclude_14 : decode cX6_exclude 14 = .ok (.aload_n 0, 1) := by decide +kernel
theorem dX6_exclude_15 : decode cX6_exclude 15 = .ok (.getfield 9, 3) := by decide +kernel
theorem dX6_exclude_18 : decode cX6_exclude 18 = .ok (.iload_n 2, 1) := by decide +kernel
theorem dX6_exclude_19 : decode cX6_exclude 19 = .ok (.iaload, 1) := by decide +kernel
theorem dX6_exclude_20 : decode cX6_exclude 20 = .ok (.iload_n 1, 1) := by decide +kernel
theorem dX6_exclude_21 : decode cX6_exclude 21 = .ok (.if_icmp .eq 4, 3) := by decide +kernel
theorem dX6_exclude_24 : decode cX6_exclude 24 = .ok (.return_, 1) := by decide +kernel
theorem dX6_exclude_25 : decode cX6_exclude 25 = .ok (.aload_n 0, 1) := by decide +kernel
theorem dX6_exclude_26 : decode cX6_exclude 26 = .ok (.dup, 1) := by decide +kernel
theorem dX6_exclude_27 : decode cX6_exclude 27 = .ok (.getfield 15, 3) := by decide +kernel
theorem dX6_exclude_30 : decode cX6_exclude 30 = .ok (.iconst 1, 1) := by decide +kernel
theorem dX6_exclude_31 : decode cX6_exclude 31 = .ok (.isub, 1) := by decide +kernel
theorem dX6_exclude_32 : decode cX6_exclude 32 = .ok (.putfield 15, 3) := by decide +kernel
theorem dX6_exclude_35 : decode cX6_exclude 35 = .ok (.aload_n 0, 1) := by decide +kernel
theorem dX6_exclude_36 : decode cX6_exclude 36 = .ok (.getfield 9, 3) := by decide +kernel
theorem dX6_exclude_39 : decode cX6_exclude 39 = .ok (.iload_n 2, 1) := by decide +kernel
theorem dX6_exclude_40 : decode cX6_exclude 40 = .ok (.iconst 1, 1) := by decide +kernel
theorem dX6_exclude_41 : decode cX6_exclude 41 = .ok (.iadd, 1) := by decide +kernel
theorem dX6_exclude_42 : decode cX6_exclude 42 = .ok (.aload_n 0, 1) := by decide +kernel
theorem dX6_exclude_43 : decode cX6_exclude 43 = .ok (.getfield 9, 3) := by decide +kernel
theorem dX6_exclude_46 : decode cX6_exclude 46 = .ok (.iload_n 2, 1) := by decide +kernel
theorem dX6_exclude_47 : decode cX6_exclude 47 = .ok (.aload_n 0, 1) := by decide +kernel
theorem dX6_exclude_48 : decode cX6_exclude 48 = .ok (.getfield 15, 3) := by decide +kernel
theorem dX6_exclude_51 : decode cX6_exclude 51 = .ok (.iload_n 2, 1) := by decide +kernel
theorem dX6_exclude_52 : decode cX6_exclude 52 = .ok (.isub, 1) := by decide +kernel
theorem dX6_exclude_53 : decode cX6_exclude 53 = .ok (.invokestatic 19, 3) := by decide +kernel
theorem dX6_exclude_56 : decode cX6_exclude 56 = .ok (.return_, 1) := by decide +kernel
theorem dX6_sizeBelow_0 : decode cX6_sizeBelow 0 = .ok (.aload_n 0, 1) := by decide +kernel
theorem dX6_sizeBelow_1 : decode cX6_sizeBelow 1 = .ok (.iload_n 1, 1) := by decide +kernel
theorem dX6_sizeBelow_2 : decode cX6_sizeBelow 2 = .ok (.iconst 0, 1) := by decide +kernel
theorem dX6_sizeBelow_3 : decode cX6_sizeBelow 3 = .ok (.invokestatic 29, 3) := by decide +kernel
theorem dX6_sizeBelow_6 : decode cX6_sizeBelow 6 = .ok (.invokevirtual 25, 3) := by decide +kernel
theorem dX6_sizeBelow_9 : decode cX6_sizeBelow 9 = .ok (.ireturn, 1) := by decide +kernel
theorem dX6_differenceFrom_0 : decode cX6_differenceFrom 0 = .ok (.iconst 0, 1) := by decide +kernel
theorem dX6_differenceFrom_1 : decode cX6_differenceFrom 1 = .ok (.istore_n 2, 1) := by decide +kernel
theorem dX6_differenceFrom_2 : decode cX6_differenceFrom 2 = .ok (.iconst 0, 1) := by decide +kernel
theorem dX6_differenceFrom_3 : decode cX6_differenceFrom 3 = .ok (.istore_n 3, 1) := by decide +kernel
theorem dX6_differenceFrom_4 : decode cX6_differenceFrom 4 = .ok (.iload_n 3, 1) := by decide +kernel
theorem dX6_differenceFrom_5 : decode cX6_differenceFrom 5 = .ok (.aload_n 0, 1) := by decide +kernel
theorem dX6_differenceFrom_6 : decode cX6_differenceFrom 6 = .ok (.getfield 15, 3) := by decide +kernel
theorem dX6_differenceFrom_9 : decode cX6_differenceFrom 9 = .ok (.if_icmp .ge 49, 3) := by decide +kernel
theorem dX6_differenceFrom_12 : decode cX6_differenceFrom 12 = .ok (.aload_n 1, 1) := by decide +kernel
theorem dX6_differenceFrom_13 : decode cX6_differenceFrom 13 = .ok (.aload_n 0, 1) := by decide +kernel
theorem dX6_differenceFrom_14 : decode cX6_differenceFrom 14 = .ok (.getfield 9, 3) := by decide +kernel
theorem dX6_differenceFrom_17 : decode cX6_differenceFrom 17 = .ok (.iload_n 3, 1) := by decide +kernel
theorem dX6_differenceFrom_18 : decode cX6_differenceFrom 18 = .ok (.iaload, 1) := by decide +kernel
theorem dX6_differenceFrom_19 : decode cX6_differenceFrom 19 = .ok (.invokevirtual 25, 3) := by decide +kernel
theorem dX6_differenceFrom_22 : decode cX6_differenceFrom 22 = .ok (.istore 4, 2) := by decide +kernel
theorem dX6_differenceFrom_24 : decode cX6_differenceFrom 24 = .ok (.iload 4, 2) := by decide +kernel
theorem dX6_differenceFrom_26 : decode cX6_differenceFrom 26 = .ok (.aload_n 1, 1) := by decide +kernel
theorem dX6_differenceFrom_27 : decode cX6_differenceFrom 27 = .ok (.getfield 15, 3) := by decide +kernel
theorem dX6_differenceFrom_30 : decode cX6_differenceFrom 30 = .ok (.if_icmp .ge 22, 3) := by decide +kernel
theorem dX6_differenceFrom_33 : decode cX6_differenceFrom 33 = .ok (.aload_n 1, 1) := by decide +kernel
theorem dX6_differenceFrom_34 : decode cX6_differenceFrom 34 = .ok (.getfield 9, 3) := by decide +kernel
theorem dX6_differenceFrom_37 : decode cX6_differenceFrom 37 = .ok (.iload 4, 2) := by decide +kernel
theorem dX6_differenceFrom_39 : decode cX6_differenceFrom 39 = .ok (.iaload, 1) := by decide +kernel
theorem dX6_differenceFrom_40 : decode cX6_differenceFrom 40 = .ok (.aload_n 0, 1) := by decide +kernel
theorem dX6_differenceFrom_41 : decode cX6_differenceFrom 41 = .ok (.getfield 9, 3) := by decide +kernel
theorem dX6_differenceFrom_44 : decode cX6_differenceFrom 44 = .ok (.iload_n 3, 1) := by decide +kernel
theorem dX6_differenceFrom_45 : decode cX6_differenceFrom 45 = .ok (.iaload, 1) := by decide +kernel
theorem dX6_differenceFrom_46 : decode cX6_differenceFrom 46 = .ok (.if_icmp .ne 6, 3) := by decide +kernel
theorem dX6_differenceFrom_49 : decode cX6_differenceFrom 49 = .ok (.iinc 2 1, 3) := by decide +kernel
theorem dX6_differenceFrom_52 : decode cX6_differenceFrom 52 = .ok (.iinc 3 1, 3) := by decide +kernel
theorem dX6_differenceFrom_55 : decode cX6_differenceFrom 55 = .ok (.goto (-51), 3) := by decide +kernel
theorem dX6_differenceFrom_58 : decode cX6_differenceFrom 58 = .ok (.aload_n 0, 1) := by decide +kernel
theorem dX6_differenceFrom_59 : decode cX6_differenceFrom 59 = .ok (.getfield 15, 3) := by decide +kernel
theorem dX6_differenceFrom_62 : decode cX6_differenceFrom 62 = .ok (.aload_n 1, 1) := by decide +kernel
theorem dX6_differenceFrom_63 : decode cX6_differenceFrom 63 = .ok (.getfield 15, 3) := by decide +kernel
theorem dX6_differenceFrom_66 : decode cX6_differenceFrom 66 = .ok (.iadd, 1) := by decide +kernel
theorem dX6_differenceFrom_67 : decode cX6_differenceFrom 67 = .ok (.iconst 2, 1) := by decide +kernel
theorem dX6_differenceFrom_68 : decode cX6_differenceFrom 68 = .ok (.iload_n 2, 1) := by decide +kernel
theorem dX6_differenceFrom_69 : decode cX6_differenceFrom 69 = .ok (.imul, 1) := by decide +kernel
theorem dX6_differenceFrom_70 : decode cX6_differenceFrom 70 = .ok (.isub, 1) := by decide +kernel
theorem dX6_differenceFrom_71 : decode cX6_differenceFrom 71 = .ok (.ireturn, 1) := by decide +kernel
theorem dX6_hasTwins_0 : decode cX6_hasTwins 0 = .ok (.iconst 1, 1) := by decide +kernel
theorem dX6_hasTwins_1 : decode cX6_hasTwins 1 = .ok (.istore_n 1, 1) := by decide +kernel
theorem dX6_hasTwins_2 : decode cX6_hasTwins 2 = .ok (.iload_n 1, 1) := by decide +kernel
theorem dX6_hasTwins_3 : decode cX6_hasTwins 3 = .ok (.aload_n 0, 1) := by decide +kernel
theorem dX6_hasTwins_4 : decode cX6_hasTwins 4 = .ok (.getfield 15, 3) := by decide +kernel
theorem dX6_hasTwins_7 : decode cX6_hasTwins 7 = .ok (.if_icmp .ge 34, 3) := by decide +kernel
theorem dX6_hasTwins_10 : decode cX6_hasTwins 10 = .ok (.aload_n 0, 1) := by decide +kernel
theorem dX6_hasTwins_11 : decode cX6_hasTwins 11 = .ok (.getfield 9, 3) := by decide +kernel
theorem dX6_hasTwins_14 : decode cX6_hasTwins 14 = .ok (.iload_n 1, 1) := by decide +kernel
theorem dX6_hasTwins_15 : decode cX6_hasTwins 15 = .ok (.iaload, 1) := by decide +kernel
theorem dX6_hasTwins_16 : decode cX6_hasTwins 16 = .ok (.invokestatic 33, 3) := by decide +kernel
theorem dX6_hasTwins_19 : decode cX6_hasTwins 19 = .ok (.aload_n 0, 1) := by decide +kernel
theorem dX6_hasTwins_20 : decode cX6_hasTwins 20 = .ok (.getfield 9, 3) := by decide +kernel
theorem dX6_hasTwins_23 : decode cX6_hasTwins 23 = .ok (.iload_n 1, 1) := by decide +kernel
theorem dX6_hasTwins_24 : decode cX6_hasTwins 24 = .ok (.iconst 1, 1) := by decide +kernel
theorem dX6_hasTwins_25 : decode cX6_hasTwins 25 = .ok (.isub, 1) := by decide +kernel
theorem dX6_hasTwins_26 : decode cX6_hasTwins 26 = .ok (.iaload, 1) := by decide +kernel
theorem dX6_hasTwins_27 : decode cX6_hasTwins 27 = .ok (.invokestatic 33, 3) := by decide +kernel
theorem dX6_hasTwins_30 : decode cX6_hasTwins 30 = .ok (.if_icmp .ne 5, 3) := by decide +kernel
theorem dX6_hasTwins_33 : decode cX6_hasTwins 33 = .ok (.iconst 1, 1) := by decide +kernel
theorem dX6_hasTwins_34 : decode cX6_hasTwins 34 = .ok (.ireturn, 1) := by decide +kernel
theorem dX6_hasTwins_35 : decode cX6_hasTwins 35 = .ok (.iinc 1 1, 3) := by decide +kernel
theorem dX6_hasTwins_38 : decode cX6_hasTwins 38 = .ok (.goto (-36), 3) := by decide +kernel
theorem dX6_hasTwins_41 : decode cX6_hasTwins 41 = .ok (.iconst 0, 1) := by decide +kernel
theorem dX6_hasTwins_42 : decode cX6_hasTwins 42 = .ok (.ireturn, 1) := by decide +kernel
theorem dX6_twinGroups_0 : decode cX6_twinGroups 0 = .ok (.iconst 0, 1) := by decide +kernel
theorem dX6_twinGroups_1 : decode cX6_twinGroups 1 = .ok (.istore_n 1, 1) := by decide +kernel
theorem dX6_twinGroups_2 : decode cX6_twinGroups 2 = .ok (.iconst 0, 1) := by decide +kernel
theorem dX6_twinGroups_3 : decode cX6_twinGroups 3 = .ok (.istore_n 2, 1) := by decide +kernel
theorem dX6_twinGroups_4 : decode cX6_twinGroups 4 = .ok (.iload_n 2, 1) := by decide +kernel
theorem dX6_twinGroups_5 : decode cX6_twinGroups 5 = .ok (.aload_n 0, 1) := by decide +kernel
theorem dX6_twinGroups_6 : decode cX6_twinGroups 6 = .ok (.getfield 15, 3) := by decide +kernel
theorem dX6_twinGroups_9 : decode cX6_twinGroups 9 = .ok (.if_icmp .ge 20, 3) := by decide +kernel
theorem dX6_twinGroups_12 : decode cX6_twinGroups 12 = .ok (.aload_n 0, 1) := by decide +kernel
theorem dX6_twinGroups_13 : decode cX6_twinGroups 13 = .ok (.iload_n 2, 1) := by decide +kernel
theorem dX6_twinGroups_14 : decode cX6_twinGroups 14 = .ok (.invokevirtual 36, 3) := by decide +kernel
theorem dX6_twinGroups_17 : decode cX6_twinGroups 17 = .ok (.ifCond .eq 6, 3) := by decide +kernel
theorem dX6_twinGroups_20 : decode cX6_twinGroups 20 = .ok (.iinc 1 1, 3) := by decide +kernel
theorem dX6_twinGroups_23 : decode cX6_twinGroups 23 = .ok (.iinc 2 1, 3) := by decide +kernel
theorem dX6_twinGroups_26 : decode cX6_twinGroups 26 = .ok (.goto (-22), 3) := by decide +kernel
theorem dX6_twinGroups_29 : decode cX6_twinGroups 29 = .ok (.iload_n 1, 1) := by decide +kernel
theorem dX6_twinGroups_30 : decode cX6_twinGroups 30 = .ok (.ireturn, 1) := by decide +kernel
theorem dX6_rowOfTwins_0 : decode cX6_rowOfTwins 0 = .ok (.iconst 0, 1) := by decide +kernel
theorem dX6_rowOfTwins_1 : decode cX6_rowOfTwins 1 = .ok (.istore_n 3, 1) := by decide +kernel
theorem dX6_rowOfTwins_2 : decode cX6_rowOfTwins 2 = .ok (.iconst 0, 1) := by decide +kernel
theorem dX6_rowOfTwins_3 : decode cX6_rowOfTwins 3 = .ok (.istore 4, 2) := by decide +kernel
theorem dX6_rowOfTwins_5 : decode cX6_rowOfTwins 5 = .ok (.iload 4, 2) := by decide +kernel
theorem dX6_rowOfTwins_7 : decode cX6_rowOfTwins 7 = .ok (.aload_n 0, 1) := by decide +kernel
theorem dX6_rowOfTwins_8 : decode cX6_rowOfTwins 8 = .ok (.getfield 15, 3) := by decide +kernel
theorem dX6_rowOfTwins_11 : decode cX6_rowOfTwins 11 = .ok (.if_icmp .ge 37, 3) := by decide +kernel
theorem dX6_rowOfTwins_14 : decode cX6_rowOfTwins 14 = .ok (.aload_n 0, 1) := by decide +kernel
theorem dX6_rowOfTwins_15 : decode cX6_rowOfTwins 15 = .ok (.iload 4, 2) := by decide +kernel
theorem dX6_rowOfTwins_17 : decode cX6_rowOfTwins 17 = .ok (.invokevirtual 36, 3) := by decide +kernel
theorem dX6_rowOfTwins_20 : decode cX6_rowOfTwins 20 = .ok (.ifCond .ne 6, 3) := by decide +kernel
theorem dX6_rowOfTwins_23 : decode cX6_rowOfTwins 23 = .ok (.goto 19, 3) := by decide +kernel
theorem dX6_rowOfTwins_26 : decode cX6_rowOfTwins 26 = .ok (.iload_n 3, 1) := by decide +kernel
theorem dX6_rowOfTwins_27 : decode cX6_rowOfTwins 27 = .ok (.iload_n 1, 1) := by decide +kernel
theorem dX6_rowOfTwins_28 : decode cX6_rowOfTwins 28 = .ok (.if_icmp .ne 11, 3) := by decide +kernel
theorem dX6_rowOfTwins_31 : decode cX6_rowOfTwins 31 = .ok (.aload_n 0, 1) := by decide +kernel
theorem dX6_rowOfTwins_32 : decode cX6_rowOfTwins 32 = .ok (.iload 4, 2) := by decide +kernel
theorem dX6_rowOfTwins_34 : decode cX6_rowOfTwins 34 = .ok (.iload_n 2, 1) := by decide +kernel
theorem dX6_rowOfTwins_35 : decode cX6_rowOfTwins 35 = .ok (.invokevirtual 40, 3) := by decide +kernel
theorem dX6_rowOfTwins_38 : decode cX6_rowOfTwins 38 = .ok (.ireturn, 1) := by decide +kernel
theorem dX6_rowOfTwins_39 : decode cX6_rowOfTwins 39 = .ok (.iinc 3 1, 3) := by decide +kernel
theorem dX6_rowOfTwins_42 : decode cX6_rowOfTwins 42 = .ok (.iinc 4 1, 3) := by decide +kernel
theorem dX6_rowOfTwins_45 : decode cX6_rowOfTwins 45 = .ok (.goto (-40), 3) := by decide +kernel
theorem dX6_rowOfTwins_48 : decode cX6_rowOfTwins 48 = .ok (.iconst (-1), 1) := by decide +kernel
theorem dX6_rowOfTwins_49 : decode cX6_rowOfTwins 49 = .ok (.ireturn, 1) := by decide +kernel
theorem dX6_rowInGroup_0 : decode cX6_rowInGroup 0 = .ok (.iload_n 2, 1) := by decide +kernel
theorem dX6_rowInGroup_1 : decode cX6_rowInGroup 1 = .ok (.aload_n 0, 1) := by decide +kernel
theorem dX6_rowInGroup_2 : decode cX6_rowInGroup 2 = .ok (.getfield 15, 3) := by decide +kernel
theorem dX6_rowInGroup_5 : decode cX6_rowInGroup 5 = .ok (.iload_n 1, 1) := by decide +kernel
theorem dX6_rowInGroup_6 : decode cX6_rowInGroup 6 = .ok (.isub, 1) := by decide +kernel
theorem dX6_rowInGroup_7 : decode cX6_rowInGroup 7 = .ok (.if_icmp .lt 5, 3) := by decide +kernel
theorem dX6_rowInGroup_10 : decode cX6_rowInGroup 10 = .ok (.iconst (-1), 1) := by decide +kernel
theorem dX6_rowInGroup_11 : decode cX6_rowInGroup 11 = .ok (.ireturn, 1) := by decide +kernel
theorem dX6_rowInGroup_12 : decode cX6_rowInGroup 12 = .ok (.aload_n 0, 1) := by decide +kernel
theorem dX6_rowInGroup_13 : decode cX6_rowInGroup 13 = .ok (.getfield 9, 3) := by decide +kernel
theorem dX6_rowInGroup_16 : decode cX6_rowInGroup 16 = .ok (.iload_n 1, 1) := by decide +kernel
theorem dX6_rowInGroup_17 : decode cX6_rowInGroup 17 = .ok (.iload_n 2, 1) := by decide +kernel
theorem dX6_rowInGroup_18 : decode cX6_rowInGroup 18 = .ok (.iadd, 1) := by decide +kernel
theorem dX6_rowInGroup_19 : decode cX6_rowInGroup 19 = .ok (.iaload, 1) := by decide +kernel
theorem dX6_rowInGroup_20 : decode cX6_rowInGroup 20 = .ok (.istore_n 3, 1) := by decide +kernel
theorem dX6_rowInGroup_21 : decode cX6_rowInGroup 21 = .ok (.iload_n 3, 1) := by decide +kernel
theorem dX6_rowInGroup_22 : decode cX6_rowInGroup 22 = .ok (.invokestatic 33, 3) := by decide +kernel
theorem dX6_rowInGroup_25 : decode cX6_rowInGroup 25 = .ok (.aload_n 0, 1) := by decide +kernel
theorem dX6_rowInGroup_26 : decode cX6_rowInGroup 26 = .ok (.getfield 9, 3) := by decide +kernel
theorem dX6_rowInGroup_29 : decode cX6_rowInGroup 29 = .ok (.iload_n 1, 1) := by decide +kernel
theorem dX6_rowInGroup_30 : decode cX6_rowInGroup 30 = .ok (.iaload, 1) := by decide +kernel
theorem dX6_rowInGroup_31 : decode cX6_rowInGroup 31 = .ok (.invokestatic 33, 3) := by decide +kernel
theorem dX6_rowInGroup_34 : decode cX6_rowInGroup 34 = .ok (.if_icmp .ne 10, 3) := by decide +kernel
theorem dX6_rowInGroup_37 : decode cX6_rowInGroup 37 = .ok (.iload_n 3, 1) := by decide +kernel
theorem dX6_rowInGroup_38 : decode cX6_rowInGroup 38 = .ok (.invokestatic 43, 3) := by decide +kernel
theorem dX6_rowInGroup_41 : decode cX6_rowInGroup 41 = .ok (.goto 4, 3) := by decide +kernel
theorem dX6_rowInGroup_44 : decode cX6_rowInGroup 44 = .ok (.iconst (-1), 1) := by decide +kernel
theorem dX6_rowInGroup_45 : decode cX6_rowInGroup 45 = .ok (.ireturn, 1) := by decide +kernel
theorem dX6_opensTwins_0 : decode cX6_opensTwins 0 = .ok (.aload_n 0, 1) := by decide +kernel
theorem dX6_opensTwins_1 : decode cX6_opensTwins 1 = .ok (.getfield 9, 3) := by decide +kernel
theorem dX6_opensTwins_4 : decode cX6_opensTwins 4 = .ok (.iload_n 1, 1) := by decide +kernel
theorem dX6_opensTwins_5 : decode cX6_opensTwins 5 = .ok (.iaload, 1) := by decide +kernel
theorem dX6_opensTwins_6 : decode cX6_opensTwins 6 = .ok (.invokestatic 33, 3) := by decide +kernel
theorem dX6_opensTwins_9 : decode cX6_opensTwins 9 = .ok (.istore_n 2, 1) := by decide +kernel
theorem dX6_opensTwins_10 : decode cX6_opensTwins 10 = .ok (.iload_n 1, 1) := by decide +kernel
theorem dX6_opensTwins_11 : decode cX6_opensTwins 11 = .ok (.ifCond .eq 18, 3) := by decide +kernel
theorem dX6_opensTwins_14 : decode cX6_opensTwins 14 = .ok (.aload_n 0, 1) := by decide +kernel
theorem dX6_opensTwins_15 : decode cX6_opensTwins 15 = .ok (.getfield 9, 3) := by decide +kernel
theorem dX6_opensTwins_18 : decode cX6_opensTwins 18 = .ok (.iload_n 1, 1) := by decide +kernel
theorem dX6_opensTwins_19 : decode cX6_opensTwins 19 = .ok (.iconst 1, 1) := by decide +kernel
theorem dX6_opensTwins_20 : decode cX6_opensTwins 20 = .ok (.isub, 1) := by decide +kernel
theorem dX6_opensTwins_21 : decode cX6_opensTwins 21 = .ok (.iaload, 1) := by decide +kernel
theorem dX6_opensTwins_22 : decode cX6_opensTwins 22 = .ok (.invokestatic 33, 3) := by decide +kernel
theorem dX6_opensTwins_25 : decode cX6_opensTwins 25 = .ok (.iload_n 2, 1) := by decide +kernel
theorem dX6_opensTwins_26 : decode cX6_opensTwins 26 = .ok (.if_icmp .eq 7, 3) := by decide +kernel
theorem dX6_opensTwins_29 : decode cX6_opensTwins 29 = .ok (.iconst 1, 1) := by decide +kernel
theorem dX6_opensTwins_30 : decode cX6_opensTwins 30 = .ok (.goto 4, 3) := by decide +kernel
theorem dX6_opensTwins_33 : decode cX6_opensTwins 33 = .ok (.iconst 0, 1) := by decide +kernel
theorem dX6_opensTwins_34 : decode cX6_opensTwins 34 = .ok (.istore_n 3, 1) := by decide +kernel
theorem dX6_opensTwins_35 : decode cX6_opensTwins 35 = .ok (.iload_n 3, 1) := by decide +kernel
theorem dX6_opensTwins_36 : decode cX6_opensTwins 36 = .ok (.ifCond .eq 32, 3) := by decide +kernel
theorem dX6_opensTwins_39 : decode cX6_opensTwins 39 = .ok (.iload_n 1, 1) := by decide +kernel
theorem dX6_opensTwins_40 : decode cX6_opensTwins 40 = .ok (.iconst 1, 1) := by decide +kernel
theorem dX6_opensTwins_41 : decode cX6_opensTwins 41 = .ok (.iadd, 1) := by decide +kernel
theorem dX6_opensTwins_42 : decode cX6_opensTwins 42 = .ok (.aload_n 0, 1) := by decide +kernel
theorem dX6_opensTwins_43 : decode cX6_opensTwins 43 = .ok (.getfield 15, 3) := by decide +kernel
theorem dX6_opensTwins_46 : decode cX6_opensTwins 46 = .ok (.if_icmp .ge 22, 3) := by decide +kernel
theorem dX6_opensTwins_49 : decode cX6_opensTwins 49 = .ok (.aload_n 0, 1) := by decide +kernel
theorem dX6_opensTwins_50 : decode cX6_opensTwins 50 = .ok (.getfield 9, 3) := by decide +kernel
theorem dX6_opensTwins_53 : decode cX6_opensTwins 53 = .ok (.iload_n 1, 1) := by decide +kernel
theorem dX6_opensTwins_54 : decode cX6_opensTwins 54 = .ok (.iconst 1, 1) := by decide +kernel
theorem dX6_opensTwins_55 : decode cX6_opensTwins 55 = .ok (.iadd, 1) := by decide +kernel
theorem dX6_opensTwins_56 : decode cX6_opensTwins 56 = .ok (.iaload, 1) := by decide +kernel
theorem dX6_opensTwins_57 : decode cX6_opensTwins 57 = .ok (.invokestatic 33, 3) := by decide +kernel
theorem dX6_opensTwins_60 : decode cX6_opensTwins 60 = .ok (.iload_n 2, 1) := by decide +kernel
theorem dX6_opensTwins_61 : decode cX6_opensTwins 61 = .ok (.if_icmp .ne 7, 3) := by decide +kernel
theorem dX6_opensTwins_64 : decode cX6_opensTwins 64 = .ok (.iconst 1, 1) := by decide +kernel
theorem dX6_opensTwins_65 : decode cX6_opensTwins 65 = .ok (.goto 4, 3) := by decide +kernel
theorem dX6_opensTwins_68 : decode cX6_opensTwins 68 = .ok (.iconst 0, 1) := by decide +kernel
theorem dX6_opensTwins_69 : decode cX6_opensTwins 69 = .ok (.ireturn, 1) := by decide +kernel
theorem dX6_placeFor_0 : decode cX6_placeFor 0 = .ok (.iconst 0, 1) := by decide +kernel
theorem dX6_placeFor_1 : decode cX6_placeFor 1 = .ok (.istore_n 2, 1) := by decide +kernel
theorem dX6_placeFor_2 : decode cX6_placeFor 2 = .ok (.iload_n 2, 1) := by decide +kernel
theorem dX6_placeFor_3 : decode cX6_placeFor 3 = .ok (.aload_n 0, 1) := by decide +kernel
theorem dX6_placeFor_4 : decode cX6_placeFor 4 = .ok (.getfield 15, 3) := by decide +kernel
theorem dX6_placeFor_7 : decode cX6_placeFor 7 = .ok (.if_icmp .ge 21, 3) := by decide +kernel
theorem dX6_placeFor_10 : decode cX6_placeFor 10 = .ok (.aload_n 0, 1) := by decide +kernel
theorem dX6_placeFor_11 : decode cX6_placeFor 11 = .ok (.getfield 9, 3) := by decide +kernel
theorem dX6_placeFor_14 : decode cX6_placeFor 14 = .ok (.iload_n 2, 1) := by decide +kernel
theorem dX6_placeFor_15 : decode cX6_placeFor 15 = .ok (.iaload, 1) := by decide +kernel
theorem dX6_placeFor_16 : decode cX6_placeFor 16 = .ok (.iload_n 1, 1) := by decide +kernel
theorem dX6_placeFor_17 : decode cX6_placeFor 17 = .ok (.if_icmp .lt 5, 3) := by decide +kernel
theorem dX6_placeFor_20 : decode cX6_placeFor 20 = .ok (.iload_n 2, 1) := by decide +kernel
theorem dX6_placeFor_21 : decode cX6_placeFor 21 = .ok (.ireturn, 1) := by decide +kernel
theorem dX6_placeFor_22 : decode cX6_placeFor 22 = .ok (.iinc 2 1, 3) := by decide +kernel
theorem dX6_placeFor_25 : decode cX6_placeFor 25 = .ok (.goto (-23), 3) := by decide +kernel
theorem dX6_placeFor_28 : decode cX6_placeFor 28 = .ok (.aload_n 0, 1) := by decide +kernel
theorem dX6_placeFor_29 : decode cX6_placeFor 29 = .ok (.getfield 15, 3) := by decide +kernel
theorem dX6_placeFor_32 : decode cX6_placeFor 32 = .ok (.ireturn, 1) := by decide +kernel
theorem dX7_init_0 : decode cX7_init 0 = .ok (.aload_n 0, 1) := by decide +kernel
theorem dX7_init_1 : decode cX7_init 1 = .ok (.invokespecial 3, 3) := by decide +kernel
theorem dX7_init_4 : decode cX7_init 4 = .ok (.aload_n 0, 1) := by decide +kernel
theorem dX7_init_5 : decode cX7_init 5 = .ok (.iconst 3, 1) := by decide +kernel
theorem dX7_init_6 : decode cX7_init 6 = .ok (.putfield 9, 3) := by decide +kernel
theorem dX7_init_9 : decode cX7_init 9 = .ok (.aload_n 0, 1) := by decide +kernel
theorem dX7_init_10 : decode cX7_init 10 = .ok (.iconst 5, 1) := by decide +kernel
theorem dX7_init_11 : decode cX7_init 11 = .ok (.putfield 15, 3) := by decide +kernel
theorem dX7_init_14 : decode cX7_init 14 = .ok (.aload_n 0, 1) := by decide +kernel
theorem dX7_init_15 : decode cX7_init 15 = .ok (.new 18, 3) := by decide +kernel
theorem dX7_init_18 : decode cX7_init 18 = .ok (.dup, 1) := by decide +kernel
theorem dX7_init_19 : decode cX7_init 19 = .ok (.invokespecial 20, 3) := by decide +kernel
theorem dX7_init_22 : decode cX7_init 22 = .ok (.putfield 21, 3) := by decide +kernel
theorem dX7_init_25 : decode cX7_init 25 = .ok (.aload_n 0, 1) := by decide +kernel
theorem dX7_init_26 : decode cX7_init 26 = .ok (.iconst 4, 1) := by decide +kernel
theorem dX7_init_27 : decode cX7_init 27 = .ok (.anewarray 25, 3) := by decide +kernel
theorem dX7_init_30 : decode cX7_init 30 = .ok (.putfield 27, 3) := by decide +kernel
theorem dX7_init_33 : decode cX7_init 33 = .ok (.aload_n 0, 1) := by decide +kernel
theorem dX7_init_34 : decode cX7_init 34 = .ok (.iconst 2, 1) := by decide +kernel
theorem dX7_init_35 : decode cX7_init 35 = .ok (.anewarray 31, 3) := by decide +kernel
theorem dX7_init_38 : decode cX7_init 38 = .ok (.putfield 33, 3) := by decide +kernel
theorem dX7_init_41 : decode cX7_init 41 = .ok (.aload_n 0, 1) := by decide +kernel
theorem dX7_init_42 : decode cX7_init 42 = .ok (.bipush 7, 2) := by decide +kernel
theorem dX7_init_44 : decode cX7_init 44 = .ok (.newarray .int, 2) := by decide +kernel
theorem dX7_init_46 : decode cX7_init 46 = .ok (.putfield 37, 3) := by decide +kernel
theorem dX7_init_49 : decode cX7_init 49 = .ok (.iconst 0, 1) := by decide +kernel
theorem dX7_init_50 : decode cX7_init 50 = .ok (.istore_n 1, 1) := by decide +kernel
theorem dX7_init_51 : decode cX7_init 51 = .ok (.iload_n 1, 1) := by decide +kernel
theorem dX7_init_52 : decode cX7_init 52 = .ok (.iconst 4, 1) := by decide +kernel
theorem dX7_init_53 : decode cX7_init 53 = .ok (.if_icmp .ge 22, 3) := by decide +kernel
theorem dX7_init_56 : decode cX7_init 56 = .ok (.aload_n 0, 1) := by decide +kernel
theorem dX7_init_57 : decode cX7_init 57 = .ok (.getfield 27, 3) := by decide +kernel
theorem dX7_init_60 : decode cX7_init 60 = .ok (.iload_n 1, 1) := by decide +kernel
theorem dX7_init_61 : decode cX7_init 61 = .ok (.new 25, 3) := by decide +kernel
theorem dX7_init_64 : decode cX7_init 64 = .ok (.dup, 1) := by decide +kernel
theorem dX7_init_65 : decode cX7_init 65 = .ok (.invokespecial 41, 3) := by decide +kernel
theorem dX7_init_68 : decode cX7_init 68 = .ok (.aastore, 1) := by decide +kernel
theorem dX7_init_69 : decode cX7_init 69 = .ok (.iinc 1 1, 3) := by decide +kernel
theorem dX7_init_72 : decode cX7_init 72 = .ok (.goto (-21), 3) := by decide +kernel
theorem dX7_init_75 : decode cX7_init 75 = .ok (.iconst 0, 1) := by decide +kernel
theorem dX7_init_76 : decode cX7_init 76 = .ok (.istore_n 1, 1) := by decide +kernel
theorem dX7_init_77 : decode cX7_init 77 = .ok (.iload_n 1, 1) := by decide +kernel
theorem dX7_init_78 : decode cX7_init 78 = .ok (.iconst 2, 1) := by decide +kernel
theorem dX7_init_79 : decode cX7_init 79 = .ok (.if_icmp .ge 22, 3) := by decide +kernel
theorem dX7_init_82 : decode cX7_init 82 = .ok (.aload_n 0, 1) := by decide +kernel
theorem dX7_init_83 : decode cX7_init 83 = .ok (.getfield 33, 3) := by decide +kernel
theorem dX7_init_86 : decode cX7_init 86 = .ok (.iload_n 1, 1) := by decide +kernel
theorem dX7_init_87 : decode cX7_init 87 = .ok (.new 31, 3) := by decide +kernel
theorem dX7_init_90 : decode cX7_init 90 = .ok (.dup, 1) := by decide +kernel
theorem dX7_init_91 : decode cX7_init 91 = .ok (.invokespecial 42, 3) := by decide +kernel
theorem dX7_init_94 : decode cX7_init 94 = .ok (.aastore, 1) := by decide +kernel
theorem dX7_init_95 : decode cX7_init 95 = .ok (.iinc 1 1, 3) := by decide +kernel
theorem dX7_init_98 : decode cX7_init 98 = .ok (.goto (-21), 3) := by decide +kernel
theorem dX7_init_101 : decode cX7_init 101 = .ok (.return_, 1) := by decide +kernel
theorem dX7_copyFrom_0 : decode cX7_copyFrom 0 = .ok (.aload_n 0, 1) := by decide +kernel
theorem dX7_copyFrom_1 : decode cX7_copyFrom 1 = .ok (.aload_n 1, 1) := by decide +kernel
theorem dX7_copyFrom_2 : decode cX7_copyFrom 2 = .ok (.getfield 43, 3) := by decide +kernel
theorem dX7_copyFrom_5 : decode cX7_copyFrom 5 = .ok (.putfield 43, 3) := by decide +kernel
theorem dX7_copyFrom_8 : decode cX7_copyFrom 8 = .ok (.aload_n 0, 1) := by decide +kernel
theorem dX7_copyFrom_9 : decode cX7_copyFrom 9 = .ok (.aload_n 1, 1) := by decide +kernel
theorem dX7_copyFrom_10 : decode cX7_copyFrom 10 = .ok (.getfield 9, 3) := by decide +kernel
theorem dX7_copyFrom_13 : decode cX7_copyFrom 13 = .ok (.putfield 9, 3) := by decide +kernel
theorem dX7_copyFrom_16 : decode cX7_copyFrom 16 = .ok (.aload_n 0, 1) := by decide +kernel
theorem dX7_copyFrom_17 : decode cX7_copyFrom 17 = .ok (.aload_n 1, 1) := by decide +kernel
theorem dX7_copyFrom_18 : decode cX7_copyFrom 18 = .ok (.getfield 15, 3) := by decide +kernel
theorem dX7_copyFrom_21 : decode cX7_copyFrom 21 = .ok (.putfield 15, 3) := by decide +kernel
theorem dX7_copyFrom_24 : decode cX7_copyFrom 24 = .ok (.aload_n 0, 1) := by decide +kernel
theorem dX7_copyFrom_25 : decode cX7_copyFrom 25 = .ok (.getfield 21, 3) := by decide +kernel
theorem dX7_copyFrom_28 : decode cX7_copyFrom 28 = .ok (.aload_n 1, 1) := by decide +kernel
theorem dX7_copyFrom_29 : decode cX7_copyFrom 29 = .ok (.getfield 21, 3) := by decide +kernel
theorem dX7_copyFrom_32 : decode cX7_copyFrom 32 = .ok (.invokevirtual 46, 3) := by decide +kernel
theorem dX7_copyFrom_35 : decode cX7_copyFrom 35 = .ok (.iconst 0, 1) := by decide +kernel
theorem dX7_copyFrom_36 : decode cX7_copyFrom 36 = .ok (.istore_n 2, 1) := by decide +kernel
theorem dX7_copyFrom_37 : decode cX7_copyFrom 37 = .ok (.iload_n 2, 1) := by decide +kernel
theorem dX7_copyFrom_38 : decode cX7_copyFrom 38 = .ok (.iconst 4, 1) := by decide +kernel
theorem dX7_copyFrom_39 : decode cX7_copyFrom 39 = .ok (.if_icmp .ge 24, 3) := by decide +kernel
theorem dX7_copyFrom_42 : decode cX7_copyFrom 42 = .ok (.aload_n 0, 1) := by decide +kernel
theorem dX7_copyFrom_43 : decode cX7_copyFrom 43 = .ok (.getfield 27, 3) := by decide +kernel
theorem dX7_copyFrom_46 : decode cX7_copyFrom 46 = .ok (.iload_n 2, 1) := by decide +kernel
theorem dX7_copyFrom_47 : decode cX7_copyFrom 47 = .ok (.aaload, 1) := by decide +kernel
theorem dX7_copyFrom_48 : decode cX7_copyFrom 48 = .ok (.aload_n 1, 1) := by decide +kernel
theorem dX7_copyFrom_49 : decode cX7_copyFrom 49 = .ok (.getfield 27, 3) := by decide +kernel
theorem dX7_copyFrom_52 : decode cX7_copyFrom 52 = .ok (.iload_n 2, 1) := by decide +kernel
theorem dX7_copyFrom_53 : decode cX7_copyFrom 53 = .ok (.aaload, 1) := by decide +kernel
theorem dX7_copyFrom_54 : decode cX7_copyFrom 54 = .ok (.invokevirtual 50, 3) := by decide +kernel
theorem dX7_copyFrom_57 : decode cX7_copyFrom 57 = .ok (.iinc 2 1, 3) := by decide +kernel
theorem dX7_copyFrom_60 : decode cX7_copyFrom 60 = .ok (.goto (-23), 3) := by decide +kernel
theorem dX7_copyFrom_63 : decode cX7_copyFrom 63 = .ok (.iconst 0, 1) := by decide +kernel
theorem dX7_copyFrom_64 : decode cX7_copyFrom 64 = .ok (.istore_n 2, 1) := by decide +kernel
theorem dX7_copyFrom_65 : decode cX7_copyFrom 65 = .ok (.iload_n 2, 1) := by decide +kernel
theorem dX7_copyFrom_66 : decode cX7_copyFrom 66 = .ok (.iconst 2, 1) := by decide +kernel
theorem dX7_copyFrom_67 : decode cX7_copyFrom 67 = .ok (.if_icmp .ge 24, 3) := by decide +kernel
theorem dX7_copyFrom_70 : decode cX7_copyFrom 70 = .ok (.aload_n 0, 1) := by decide +kernel
theorem dX7_copyFrom_71 : decode cX7_copyFrom 71 = .ok (.getfield 33, 3) := by decide +kernel
theorem dX7_copyFrom_74 : decode cX7_copyFrom 74 = .ok (.iload_n 2, 1) := by decide +kernel
theorem dX7_copyFrom_75 : decode cX7_copyFrom 75 = .ok (.aaload, 1) := by decide +kernel
theorem dX7_copyFrom_76 : decode cX7_copyFrom 76 = .ok (.aload_n 1, 1) := by decide +kernel
theorem dX7_copyFrom_77 : decode cX7_copyFrom 77 = .ok (.getfield 33, 3) := by decide +kernel
theorem dX7_copyFrom_80 : decode cX7_copyFrom 80 = .ok (.iload_n 2, 1) := by decide +kernel
theorem dX7_copyFrom_81 : decode cX7_copyFrom 81 = .ok (.aaload, 1) := by decide +kernel
theorem dX7_copyFrom_82 : decode cX7_copyFrom 82 = .ok (.invokevirtual 53, 3) := by decide +kernel
theorem dX7_copyFrom_85 : decode cX7_copyFrom 85 = .ok (.iinc 2 1, 3) := by decide +kernel
theorem dX7_copyFrom_88 : decode cX7_copyFrom 88 = .ok (.goto (-23), 3) := by decide +kernel
theorem dX7_copyFrom_91 : decode cX7_copyFrom 91 = .ok (.return_, 1) := by decide +kernel
theorem dX7_valueSeen_0 : decode cX7_valueSeen 0 = .ok (.iload_n 1, 1) := by decide +kernel
theorem dX7_valueSeen_1 : decode cX7_valueSeen 1 = .ok (.iconst (-1), 1) := by decide +kernel
theorem dX7_valueSeen_2 : decode cX7_valueSeen 2 = .ok (.if_icmp .ne 12, 3) := by decide +kernel
theorem dX7_valueSeen_5 : decode cX7_valueSeen 5 = .ok (.aload_n 0, 1) := by decide +kernel
theorem dX7_valueSeen_6 : decode cX7_valueSeen 6 = .ok (.getfield 21, 3) := by decide +kernel
theorem dX7_valueSeen_9 : decode cX7_valueSeen 9 = .ok (.iload_n 2, 1) := by decide +kernel
theorem dX7_valueSeen_10 : decode cX7_valueSeen 10 = .ok (.invokevirtual 56, 3) := by decide +kernel
theorem dX7_valueSeen_13 : decode cX7_valueSeen 13 = .ok (.ireturn, 1) := by decide +kernel
theorem dX7_valueSeen_14 : decode cX7_valueSeen 14 = .ok (.aload_n 0, 1) := by decide +kernel
theorem dX7_valueSeen_15 : decode cX7_valueSeen 15 = .ok (.getfield 27, 3) := by decide +kernel
theorem dX7_valueSeen_18 : decode cX7_valueSeen 18 = .ok (.iload_n 1, 1) := by decide +kernel
theorem dX7_valueSeen_19 : decode cX7_valueSeen 19 = .ok (.aaload, 1) := by decide +kernel
theorem dX7_valueSeen_20 : decode cX7_valueSeen 20 = .ok (.astore_n 3, 1) := by decide +kernel
theorem dX7_valueSeen_21 : decode cX7_valueSeen 21 = .ok (.aload_n 3, 1) := by decide +kernel
theorem dX7_valueSeen_22 : decode cX7_valueSeen 22 = .ok (.iload_n 2, 1) := by decide +kernel
theorem dX7_valueSeen_23 : decode cX7_valueSeen 23 = .ok (.invokevirtual 60, 3) := by decide +kernel
theorem dX7_valueSeen_26 : decode cX7_valueSeen 26 = .ok (.ifCond .eq 12, 3) := by decide +kernel
theorem dX7_valueSeen_29 : decode cX7_valueSeen 29 = .ok (.aload_n 3, 1) := by decide +kernel
theorem dX7_valueSeen_30 : decode cX7_valueSeen 30 = .ok (.getfield 64, 3) := by decide +kernel
theorem dX7_valueSeen_33 : decode cX7_valueSeen 33 = .ok (.iload_n 2, 1) := by decide +kernel
theorem dX7_valueSeen_34 : decode cX7_valueSeen 34 = .ok (.iaload, 1) := by decide +kernel
theorem dX7_valueSeen_35 : decode cX7_valueSeen 35 = .ok (.goto 15, 3) := by decide +kernel
theorem dX7_valueSeen_38 : decode cX7_valueSeen 38 = .ok (.aload_n 0, 1) := by decide +kernel
theorem dX7_valueSeen_39 : decode cX7_valueSeen 39 = .ok (.getfield 21, 3) := by decide +kernel
theorem dX7_valueSeen_42 : decode cX7_valueSeen 42 = .ok (.iload_n 2, 1) := by decide +kernel
theorem dX7_valueSeen_43 : decode cX7_valueSeen 43 = .ok (.aload_n 3, 1) := by decide +kernel
theorem dX7_valueSeen_44 : decode cX7_valueSeen 44 = .ok (.getfield 67, 3) := by decide +kernel
theorem dX7_valueSeen_47 : decode cX7_valueSeen 47 = .ok (.invokevirtual 70, 3) := by decide +kernel
theorem dX7_valueSeen_50 : decode cX7_valueSeen 50 = .ok (.ireturn, 1) := by decide +kernel
theorem dX7_hindrance_0 : decode cX7_hindrance 0 = .ok (.aload_n 1, 1) := by decide +kernel
theorem dX7_hindrance_1 : decode cX7_hindrance 1 = .ok (.getfield 74, 3) := by decide +kernel
theorem dX7_hindrance_4 : decode cX7_hindrance 4 = .ok (.ifCond .ne 5, 3) := by decide +kernel
theorem dX7_hindrance_7 : decode cX7_hindrance 7 = .ok (.iconst 0, 1) := by decide +kernel
theorem dX7_hindrance_8 : decode cX7_hindrance 8 = .ok (.ireturn, 1) := by decide +kernel
theorem dX7_hindrance_9 : decode cX7_hindrance 9 = .ok (.aload_n 0, 1) := by decide +kernel
theorem dX7_hindrance_10 : decode cX7_hindrance 10 = .ok (.invokevirtual 77, 3) := by decide +kernel
theorem dX7_hindrance_13 : decode cX7_hindrance 13 = .ok (.ifCond .eq 5, 3) := by decide +kernel
theorem dX7_hindrance_16 : decode cX7_hindrance 16 = .ok (.iconst 2, 1) := by decide +kernel
theorem dX7_hindrance_17 : decode cX7_hindrance 17 = .ok (.ireturn, 1) := by decide +kernel
theorem dX7_hindrance_18 : decode cX7_hindrance 18 = .ok (.aload_n 0, 1) := by decide +kernel
theorem dX7_hindrance_19 : decode cX7_hindrance 19 = .ok (.aload_n 1, 1) := by decide +kernel
theorem dX7_hindrance_20 : decode cX7_hindrance 20 = .ok (.invokevirtual 81, 3) := by decide +kernel
theorem dX7_hindrance_23 : decode cX7_hindrance 23 = .ok (.ifCond .eq 5, 3) := by decide +kernel
theorem dX7_hindrance_26 : decode cX7_hindrance 26 = .ok (.iconst 1, 1) := by decide +kernel
theorem dX7_hindrance_27 : decode cX7_hindrance 27 = .ok (.ireturn, 1) := by decide +kernel
theorem dX7_hindrance_28 : decode cX7_hindrance 28 = .ok (.aload_n 0, 1) := by decide +kernel
theorem dX7_hindrance_29 : decode cX7_hindrance 29 = .ok (.aload_n 1, 1) := by decide +kernel
theorem dX7_hindrance_30 : decode cX7_hindrance 30 = .ok (.invokevirtual 85, 3) := by decide +kernel
theorem dX7_hindrance_33 : decode cX7_hindrance 33 = .ok (.ifCond .eq 5, 3) := by decide +kernel
theorem dX7_hindrance_36 : decode cX7_hindrance 36 = .ok (.iconst 4, 1) := by decide +kernel
theorem dX7_hindrance_37 : decode cX7_hindrance 37 = .ok (.ireturn, 1) := by decide +kernel
theorem dX7_hindrance_38 : decode cX7_hindrance 38 = .ok (.aload_n 0, 1) := by decide +kernel
theorem dX7_hindrance_39 : decode cX7_hindrance 39 = .ok (.aload_n 1, 1) := by decide +kernel
theorem dX7_hindrance_40 : decode cX7_hindrance 40 = .ok (.aload_n 2, 1) := by decide +kernel
theorem dX7_hindrance_41 : decode cX7_hindrance 41 = .ok (.invokevirtual 88, 3) := by decide +kernel
theorem dX7_hindrance_44 : decode cX7_hindrance 44 = .ok (.ifCond .eq 7, 3) := by decide +kernel
theorem dX7_hindrance_47 : decode cX7_hindrance 47 = .ok (.iconst 3, 1) := by decide +kernel
theorem dX7_hindrance_48 : decode cX7_hindrance 48 = .ok (.goto 4, 3) := by decide +kernel
theorem dX7_hindrance_51 : decode cX7_hindrance 51 = .ok (.iconst 0, 1) := by decide +kernel
theorem dX7_hindrance_52 : decode cX7_hindrance 52 = .ok (.ireturn, 1) := by decide +kernel
theorem dX7_settle_0 : decode cX7_settle 0 = .ok (.aload_n 1, 1) := by decide +kernel
theorem dX7_settle_1 : decode cX7_settle 1 = .ok (.getfield 74, 3) := by decide +kernel
theorem dX7_settle_4 : decode cX7_settle 4 = .ok (.ifCond .le 80, 3) := by decide +kernel
theorem dX7_settle_7 : decode cX7_settle 7 = .ok (.iconst 0, 1) := by decide +kernel
theorem dX7_settle_8 : decode cX7_settle 8 = .ok (.istore_n 2, 1) := by decide +kernel
theorem dX7_settle_9 : decode cX7_settle 9 = .ok (.iload_n 2, 1) := by decide +kernel
theorem dX7_settle_10 : decode cX7_settle 10 = .ok (.iconst 2, 1) := by decide +kernel
theorem dX7_settle_11 : decode cX7_settle 11 = .ok (.if_icmp .ge 23, 3) := by decide +kernel
theorem dX7_settle_14 : decode cX7_settle 14 = .ok (.aload_n 0, 1) := by decide +kernel
theorem dX7_settle_15 : decode cX7_settle 15 = .ok (.getfield 33, 3) := by decide +kernel
theorem dX7_settle_18 : decode cX7_settle 18 = .ok (.iload_n 2, 1) := by decide +kernel
theorem dX7_settle_19 : decode cX7_settle 19 = .ok (.aaload, 1) := by decide +kernel
theorem dX7_settle_20 : decode cX7_settle 20 = .ok (.aload_n 0, 1) := by decide +kernel
theorem dX7_settle_21 : decode cX7_settle 21 = .ok (.getfield 21, 3) := by decide +kernel
theorem dX7_settle_24 : decode cX7_settle 24 = .ok (.aload_n 1, 1) := by decide +kernel
theorem dX7_settle_25 : decode cX7_settle 25 = .ok (.invokevirtual 92, 3) := by decide +kernel
theorem dX7_settle_28 : decode cX7_settle 28 = .ok (.iinc 2 1, 3) := by decide +kernel
theorem dX7_settle_31 : decode cX7_settle 31 = .ok (.goto (-22), 3) := by decide +kernel
theorem dX7_settle_34 : decode cX7_settle 34 = .ok (.aload_n 0, 1) := by decide +kernel
theorem dX7_settle_35 : decode cX7_settle 35 = .ok (.dup, 1) := by decide +kernel
theorem dX7_settle_36 : decode cX7_settle 36 = .ok (.getfield 43, 3) := by decide +kernel
theorem dX7_settle_39 : decode cX7_settle 39 = .ok (.iconst 1, 1) := by decide +kernel
theorem dX7_settle_40 : decode cX7_settle 40 = .ok (.iadd, 1) := by decide +kernel
theorem dX7_settle_41 : decode cX7_settle 41 = .ok (.putfield 43, 3) := by decide +kernel
theorem dX7_settle_44 : decode cX7_settle 44 = .ok (.iconst 0, 1) := by decide +kernel
theorem dX7_settle_45 : decode cX7_settle 45 = .ok (.istore_n 2, 1) := by decide +kernel
theorem dX7_settle_46 : decode cX7_settle 46 = .ok (.iload_n 2, 1) := by decide +kernel
theorem dX7_settle_47 : decode cX7_settle 47 = .ok (.bipush 48, 2) := by decide +kernel
theorem dX7_settle_49 : decode cX7_settle 49 = .ok (.if_icmp .ge 35, 3) := by decide +kernel
theorem dX7_settle_52 : decode cX7_settle 52 = .ok (.aload_n 1, 1) := by decide +kernel
theorem dX7_settle_53 : decode cX7_settle 53 = .ok (.iload_n 2, 1) := by decide +kernel
theorem dX7_settle_54 : decode cX7_settle 54 = .ok (.invokevirtual 60, 3) := by decide +kernel
theorem dX7_settle_57 : decode cX7_settle 57 = .ok (.ifCond .eq 21, 3) := by decide +kernel
theorem dX7_settle_60 : decode cX7_settle 60 = .ok (.aload_n 0, 1) := by decide +kernel
theorem dX7_settle_61 : decode cX7_settle 61 = .ok (.getfield 21, 3) := by decide +kernel
theorem dX7_settle_64 : decode cX7_settle 64 = .ok (.iload_n 2, 1) := by decide +kernel
theorem dX7_settle_65 : decode cX7_settle 65 = .ok (.aload_n 0, 1) := by decide +kernel
theorem dX7_settle_66 : decode cX7_settle 66 = .ok (.getfield 43, 3) := by decide +kernel
theorem dX7_settle_69 : decode cX7_settle 69 = .ok (.aload_n 1, 1) := by decide +kernel
theorem dX7_settle_70 : decode cX7_settle 70 = .ok (.getfield 64, 3) := by decide +kernel
theorem dX7_settle_73 : decode cX7_settle 73 = .ok (.iload_n 2, 1) := by decide +kernel
theorem dX7_settle_74 : decode cX7_settle 74 = .ok (.iaload, 1) := by decide +kernel
theorem dX7_settle_75 : decode cX7_settle 75 = .ok (.invokevirtual 96, 3) := by decide +kernel
theorem dX7_settle_78 : decode cX7_settle 78 = .ok (.iinc 2 1, 3) := by decide +kernel
theorem dX7_settle_81 : decode cX7_settle 81 = .ok (.goto (-35), 3) := by decide +kernel
theorem dX7_settle_84 : decode cX7_settle 84 = .ok (.aload_n 1, 1) := by decide +kernel
theorem dX7_settle_85 : decode cX7_settle 85 = .ok (.invokevirtual 100, 3) := by decide +kernel
theorem dX7_settle_88 : decode cX7_settle 88 = .ok (.return_, 1) := by decide +kernel
theorem dX7_sweepVersions_0 : decode cX7_sweepVersions 0 = .ok (.aload_n 0, 1) := by decide +kernel
theorem dX7_sweepVersions_1 : decode cX7_sweepVersions 1 = .ok (.invokevirtual 103, 3) := by decide +kernel
theorem dX7_sweepVersions_4 : decode cX7_sweepVersions 4 = .ok (.istore_n 1, 1) := by decide +kernel
theorem dX7_sweepVersions_5 : decode cX7_sweepVersions 5 = .ok (.iconst 0, 1) := by decide +kernel
theorem dX7_sweepVersions_6 : decode cX7_sweepVersions 6 = .ok (.istore_n 2, 1) := by decide +kernel
theorem dX7_sweepVersions_7 : decode cX7_sweepVersions 7 = .ok (.iconst 0, 1) := by decide +kernel
theorem dX7_sweepVersions_8 : decode cX7_sweepVersions 8 = .ok (.istore_n 3, 1) := by decide +kernel
theorem dX7_sweepVersions_9 : decode cX7_sweepVersions 9 = .ok (.iload_n 3, 1) := by decide +kernel
theorem dX7_sweepVersions_10 : decode cX7_sweepVersions 10 = .ok (.bipush 48, 2) := by decide +kernel
theorem dX7_sweepVersions_12 : decode cX7_sweepVersions 12 = .ok (.if_icmp .ge 25, 3) := by decide +kernel
theorem dX7_sweepVersions_15 : decode cX7_sweepVersions 15 = .ok (.iload_n 2, 1) := by decide +kernel
theorem dX7_sweepVersions_16 : decode cX7_sweepVersions 16 = .ok (.aload_n 0, 1) := by decide +kernel
theorem dX7_sweepVersions_17 : decode cX7_sweepVersions 17 = .ok (.getfield 21, 3) := by decide +kernel
theorem dX7_sweepVersions_20 : decode cX7_sweepVersions 20 = .ok (.iload_n 3, 1) := by decide +kernel
theorem dX7_sweepVersions_21 : decode cX7_sweepVersions 21 = .ok (.aload_n 0, 1) := by decide +kernel
theorem dX7_sweepVersions_22 : decode cX7_sweepVersions 22 = .ok (.getfield 37, 3) := by decide +kernel
theorem dX7_sweepVersions_25 : decode cX7_sweepVersions 25 = .ok (.iload_n 1, 1) := by decide +kernel
theorem dX7_sweepVersions_26 : decode cX7_sweepVersions 26 = .ok (.invokevirtual 107, 3) := by decide +kernel
theorem dX7_sweepVersions_29 : decode cX7_sweepVersions 29 = .ok (.iadd, 1) := by decide +kernel
theorem dX7_sweepVersions_30 : decode cX7_sweepVersions 30 = .ok (.istore_n 2, 1) := by decide +kernel
theorem dX7_sweepVersions_31 : decode cX7_sweepVersions 31 = .ok (.iinc 3 1, 3) := by decide +kernel
theorem dX7_sweepVersions_34 : decode cX7_sweepVersions 34 = .ok (.goto (-25), 3) := by decide +kernel
theorem dX7_sweepVersions_37 : decode cX7_sweepVersions 37 = .ok (.iload_n 2, 1) := by decide +kernel
theorem dX7_sweepVersions_38 : decode cX7_sweepVersions 38 = .ok (.ireturn, 1) := by decide +kernel
theorem dX7_hasLastRound_0 : decode cX7_hasLastRound 0 = .ok (.iconst 0, 1) := by decide +kernel
theorem dX7_hasLastRound_1 : decode cX7_hasLastRound 1 = .ok (.istore_n 1, 1) := by decide +kernel
theorem dX7_hasLastRound_2 : decode cX7_hasLastRound 2 = .ok (.iload_n 1, 1) := by decide +kernel
theorem dX7_hasLastRound_3 : decode cX7_hasLastRound 3 = .ok (.iconst 2, 1) := by decide +kernel
theorem dX7_hasLastRound_4 : decode cX7_hasLastRound 4 = .ok (.if_icmp .ge 24, 3) := by decide +kernel
theorem dX7_hasLastRound_7 : decode cX7_hasLastRound 7 = .ok (.aload_n 0, 1) := by decide +kernel
theorem dX7_hasLastRound_8 : decode cX7_hasLastRound 8 = .ok (.getfield 33, 3) := by decide +kernel
theorem dX7_hasLastRound_11 : decode cX7_hasLastRound 11 = .ok (.iload_n 1, 1) := by decide +kernel
theorem dX7_hasLastRound_12 : decode cX7_hasLastRound 12 = .ok (.aaload, 1) := by decide +kernel
theorem dX7_hasLastRound_13 : decode cX7_hasLastRound 13 = .ok (.getfield 111, 3) := by decide +kernel
theorem dX7_hasLastRound_16 : decode cX7_hasLastRound 16 = .ok (.iconst 3, 1) := by decide +kernel
theorem dX7_hasLastRound_17 : decode cX7_hasLastRound 17 = .ok (.if_icmp .ne 5, 3) := by decide +kernel
theorem dX7_hasLastRound_20 : decode cX7_hasLastRound 20 = .ok (.iconst 1, 1) := by decide +kernel
theorem dX7_hasLastRound_21 : decode cX7_hasLastRound 21 = .ok (.ireturn, 1) := by decide +kernel
theorem dX7_hasLastRound_22 : decode cX7_hasLastRound 22 = .ok (.iinc 1 1, 3) := by decide +kernel
theorem dX7_hasLastRound_25 : decode cX7_hasLastRound 25 = .ok (.goto (-23), 3) := by decide +kernel
theorem dX7_hasLastRound_28 : decode cX7_hasLastRound 28 = .ok (.iconst 0, 1) := by decide +kernel
theorem dX7_hasLastRound_29 : decode cX7_hasLastRound 29 = .ok (.ireturn, 1) := by decide +kernel
theorem dX7_isBeingWritten_0 : decode cX7_isBeingWritten 0 = .ok (.iconst 0, 1) := by decide +kernel
theorem dX7_isBeingWritten_1 : decode cX7_isBeingWritten 1 = .ok (.istore_n 2, 1) := by decide +kernel
theorem dX7_isBeingWritten_2 : decode cX7_isBeingWritten 2 = .ok (.iload_n 2, 1) := by decide +kernel
theorem dX7_isBeingWritten_3 : decode cX7_isBeingWritten 3 = .ok (.iconst 4, 1) := by decide +kernel
theorem dX7_isBeingWritten_4 : decode cX7_isBeingWritten 4 = .ok (.if_icmp .ge 24, 3) := by decide +kernel
theorem dX7_isBeingWritten_7 : decode cX7_isBeingWritten 7 = .ok (.aload_n 0, 1) := by decide +kernel
theorem dX7_isBeingWritten_8 : decode cX7_isBeingWritten 8 = .ok (.getfield 27, 3) := by decide +kernel
theorem dX7_isBeingWritten_11 : decode cX7_isBeingWritten 11 = .ok (.iload_n 2, 1) := by decide +kernel
theorem dX7_isBeingWritten_12 : decode cX7_isBeingWritten 12 = .ok (.aaload, 1) := by decide +kernel
theorem dX7_isBeingWritten_13 : decode cX7_isBeingWritten 13 = .ok (.iload_n 1, 1) := by decide +kernel
theorem dX7_isBeingWritten_14 : decode cX7_isBeingWritten 14 = .ok (.invokevirtual 60, 3) := by decide +kernel
theorem dX7_isBeingWritten_17 : decode cX7_isBeingWritten 17 = .ok (.ifCond .eq 5, 3) := by decide +kernel
theorem dX7_isBeingWritten_20 : decode cX7_isBeingWritten 20 = .ok (.iconst 1, 1) := by decide +kernel
theorem dX7_isBeingWritten_21 : decode cX7_isBeingWritten 21 = .ok (.ireturn, 1) := by decide +kernel
theorem dX7_isBeingWritten_22 : decode cX7_isBeingWritten 22 = .ok (.iinc 2 1, 3) := by decide +kernel
theorem dX7_isBeingWritten_25 : decode cX7_isBeingWritten 25 = .ok (.goto (-23), 3) := by decide +kernel
theorem dX7_isBeingWritten_28 : decode cX7_isBeingWritten 28 = .ok (.iconst 0, 1) := by decide +kernel
theorem dX7_isBeingWritten_29 : decode cX7_isBeingWritten 29 = .ok (.ireturn, 1) := by decide +kernel
theorem dX7_openTransactions_0 : decode cX7_openTransactions 0 = .ok (.iconst 0, 1) := by decide +kernel
theorem dX7_openTransactions_1 : decode cX7_openTransactions 1 = .ok (.istore_n 1, 1) := by decide +kernel
theorem dX7_openTransactions_2 : decode cX7_openTransactions 2 = .ok (.iconst 0, 1) := by decide +kernel
theorem dX7_openTransactions_3 : decode cX7_openTransactions 3 = .ok (.istore_n 2, 1) := by decide +kernel
theorem dX7_openTransactions_4 : decode cX7_openTransactions 4 = .ok (.iload_n 2, 1) := by decide +kernel
theorem dX7_openTransactions_5 : decode cX7_openTransactions 5 = .ok (.iconst 4, 1) := by decide +kernel
theorem dX7_openTransactions_6 : decode cX7_openTransactions 6 = .ok (.if_icmp .ge 27, 3) := by decide +kernel
theorem dX7_openTransactions_9 : decode cX7_openTransactions 9 = .ok (.aload_n 0, 1) := by decide +kernel
theorem dX7_openTransactions_10 : decode cX7_openTransactions 10 = .ok (.getfield 27, 3) := by decide +kernel
theorem dX7_openTransactions_13 : decode cX7_openTransactions 13 = .ok (.iload_n 2, 1) := by decide +kernel
theorem dX7_openTransactions_14 : decode cX7_openTransactions 14 = .ok (.aaload, 1) := by decide +kernel
theorem dX7_openTransactions_15 : decode cX7_openTransactions 15 = .ok (.getfield 114, 3) := by decide +kernel
theorem dX7_openTransactions_18 : decode cX7_openTransactions 18 = .ok (.ifCond .eq 9, 3) := by decide +kernel
theorem dX7_openTransactions_21 : decode cX7_openTransactions 21 = .ok (.iload_n 1, 1) := by decide +kernel
theorem dX7_openTransactions_22 : decode cX7_openTransactions 22 = .ok (.iconst 1, 1) := by decide +kernel
theorem dX7_openTransactions_23 : decode cX7_openTransactions 23 = .ok (.iload_n 2, 1) := by decide +kernel
theorem dX7_openTransactions_24 : decode cX7_openTransactions 24 = .ok (.ishl, 1) := by decide +kernel
theorem dX7_openTransactions_25 : decode cX7_openTransactions 25 = .ok (.ior, 1) := by decide +kernel
theorem dX7_openTransactions_26 : decode cX7_openTransactions 26 = .ok (.istore_n 1, 1) := by decide +kernel
theorem dX7_openTransactions_27 : decode cX7_openTransactions 27 = .ok (.iinc 2 1, 3) := by decide +kernel
theorem dX7_openTransactions_30 : decode cX7_openTransactions 30 = .ok (.goto (-26), 3) := by decide +kernel
theorem dX7_openTransactions_33 : decode cX7_openTransactions 33 = .ok (.iload_n 1, 1) := by decide +kernel
theorem dX7_openTransactions_34 : decode cX7_openTransactions 34 = .ok (.ireturn, 1) := by decide +kernel
theorem dX7_gatherEntries_0 : decode cX7_gatherEntries 0 = .ok (.aload_n 3, 1) := by decide +kernel
theorem dX7_gatherEntries_1 : decode cX7_gatherEntries 1 = .ok (.invokevirtual 118, 3) := by decide +kernel
theorem dX7_gatherEntries_4 : decode cX7_gatherEntries 4 = .ok (.iconst 0, 1) := by decide +kernel
theorem dX7_gatherEntries_5 : decode cX7_gatherEntries 5 = .ok (.istore 4, 2) := by decide +kernel
theorem dX7_gatherEntries_7 : decode cX7_gatherEntries 7 = .ok (.iload 4, 2) := by decide +kernel
theorem dX7_gatherEntries_9 : decode cX7_gatherEntries 9 = .ok (.bipush 48, 2) := by decide +kernel
theorem dX7_gatherEntries_11 : decode cX7_gatherEntries 11 = .ok (.if_icmp .ge 77, 3) := by decide +kernel
theorem dX7_gatherEntries_14 : decode cX7_gatherEntries 14 = .ok (.aload_n 2, 1) := by decide +kernel
theorem dX7_gatherEntries_15 : decode cX7_gatherEntries 15 = .ok (.ifnull 16, 3) := by decide +kernel
theorem dX7_gatherEntries_18 : decode cX7_gatherEntries 18 = .ok (.aload_n 2, 1) := by decide +kernel
theorem dX7_gatherEntries_19 : decode cX7_gatherEntries 19 = .ok (.iload 4, 2) := by decide +kernel
theorem dX7_gatherEntries_21 : decode cX7_gatherEntries 21 = .ok (.invokevirtual 60, 3) := by decide +kernel
theorem dX7_gatherEntries_24 : decode cX7_gatherEntries 24 = .ok (.ifCond .eq 7, 3) := by decide +kernel
theorem dX7_gatherEntries_27 : decode cX7_gatherEntries 27 = .ok (.iconst 1, 1) := by decide +kernel
theorem dX7_gatherEntries_28 : decode cX7_gatherEntries 28 = .ok (.goto 4, 3) := by decide +kernel
theorem dX7_gatherEntries_31 : decode cX7_gatherEntries 31 = .ok (.iconst 0, 1) := by decide +kernel
theorem dX7_gatherEntries_32 : decode cX7_gatherEntries 32 = .ok (.istore 5, 2) := by decide +kernel
theorem dX7_gatherEntries_34 : decode cX7_gatherEntries 34 = .ok (.iload 5, 2) := by decide +kernel
theorem dX7_gatherEntries_36 : decode cX7_gatherEntries 36 = .ok (.ifCond .eq 13, 3) := by decide +kernel
theorem dX7_gatherEntries_39 : decode cX7_gatherEntries 39 = .ok (.aload_n 2, 1) := by decide +kernel
theorem dX7_gatherEntries_40 : decode cX7_gatherEntries 40 = .ok (.getfield 64, 3) := by decide +kernel
theorem dX7_gatherEntries_43 : decode cX7_gatherEntries 43 = .ok (.iload 4, 2) := by decide +kernel
theorem dX7_gatherEntries_45 : decode cX7_gatherEntries 45 = .ok (.iaload, 1) := by decide +kernel
theorem dX7_gatherEntries_46 : decode cX7_gatherEntries 46 = .ok (.goto 12, 3) := by decide +kernel
theorem dX7_gatherEntries_49 : decode cX7_gatherEntries 49 = .ok (.aload_n 0, 1) := by decide +kernel
theorem dX7_gatherEntries_50 : decode cX7_gatherEntries 50 = .ok (.getfield 21, 3) := by decide +kernel
theorem dX7_gatherEntries_53 : decode cX7_gatherEntries 53 = .ok (.iload 4, 2) := by decide +kernel
theorem dX7_gatherEntries_55 : decode cX7_gatherEntries 55 = .ok (.invokevirtual 56, 3) := by decide +kernel
theorem dX7_gatherEntries_58 : decode cX7_gatherEntries 58 = .ok (.istore 6, 2) := by decide +kernel
theorem dX7_gatherEntries_60 : decode cX7_gatherEntries 60 = .ok (.aload_n 1, 1) := by decide +kernel
theorem dX7_gatherEntries_61 : decode cX7_gatherEntries 61 = .ok (.iload 6, 2) := by decide +kernel
theorem dX7_gatherEntries_63 : decode cX7_gatherEntries 63 = .ok (.iload 4, 2) := by decide +kernel
theorem dX7_gatherEntries_65 : decode cX7_gatherEntries 65 = .ok (.invokevirtual 123, 3) := by decide +kernel
theorem dX7_gatherEntries_68 : decode cX7_gatherEntries 68 = .ok (.istore 7, 2) := by decide +kernel
theorem dX7_gatherEntries_70 : decode cX7_gatherEntries 70 = .ok (.iload 7, 2) := by decide +kernel
theorem dX7_gatherEntries_72 : decode cX7_gatherEntries 72 = .ok (.iconst (-1), 1) := by decide +kernel
theorem dX7_gatherEntries_73 : decode cX7_gatherEntries 73 = .ok (.if_icmp .eq 9, 3) := by decide +kernel
theorem dX7_gatherEntries_76 : decode cX7_gatherEntries 76 = .ok (.aload_n 3, 1) := by decide +kernel
theorem dX7_gatherEntries_77 : decode cX7_gatherEntries 77 = .ok (.iload 7, 2) := by decide +kernel
theorem dX7_gatherEntries_79 : decode cX7_gatherEntries 79 = .ok (.invokevirtual 128, 3) := by decide +kernel
theorem dX7_gatherEntries_82 : decode cX7_gatherEntries 82 = .ok (.iinc 4 1, 3) := by decide +kernel
theorem dX7_gatherEntries_85 : decode cX7_gatherEntries 85 = .ok (.goto (-78), 3) := by decide +kernel
theorem dX7_gatherEntries_88 : decode cX7_gatherEntries 88 = .ok (.return_, 1) := by decide +kernel
theorem dX7_hasConflict_0 : decode cX7_hasConflict 0 = .ok (.iconst 0, 1) := by decide +kernel
theorem dX7_hasConflict_1 : decode cX7_hasConflict 1 = .ok (.istore_n 2, 1) := by decide +kernel
theorem dX7_hasConflict_2 : decode cX7_hasConflict 2 = .ok (.iload_n 2, 1) := by decide +kernel
theorem dX7_hasConflict_3 : decode cX7_hasConflict 3 = .ok (.bipush 48, 2) := by decide +kernel
theorem dX7_hasConflict_5 : decode cX7_hasConflict 5 = .ok (.if_icmp .ge 34, 3) := by decide +kernel
theorem dX7_hasConflict_8 : decode cX7_hasConflict 8 = .ok (.aload_n 1, 1) := by decide +kernel
theorem dX7_hasConflict_9 : decode cX7_hasConflict 9 = .ok (.iload_n 2, 1) := by decide +kernel
theorem dX7_hasConflict_10 : decode cX7_hasConflict 10 = .ok (.invokevirtual 60, 3) := by decide +kernel
theorem dX7_hasConflict_13 : decode cX7_hasConflict 13 = .ok (.ifCond .eq 20, 3) := by decide +kernel
theorem dX7_hasConflict_16 : decode cX7_hasConflict 16 = .ok (.aload_n 0, 1) := by decide +kernel
theorem dX7_hasConflict_17 : decode cX7_hasConflict 17 = .ok (.getfield 21, 3) := by decide +kernel
theorem dX7_hasConflict_20 : decode cX7_hasConflict 20 = .ok (.iload_n 2, 1) := by decide +kernel
theorem dX7_hasConflict_21 : decode cX7_hasConflict 21 = .ok (.invokevirtual 132, 3) := by decide +kernel
theorem dX7_hasConflict_24 : decode cX7_hasConflict 24 = .ok (.aload_n 1, 1) := by decide +kernel
theorem dX7_hasConflict_25 : decode cX7_hasConflict 25 = .ok (.getfield 67, 3) := by decide +kernel
theorem dX7_hasConflict_28 : decode cX7_hasConflict 28 = .ok (.if_icmp .le 5, 3) := by decide +kernel
theorem dX7_hasConflict_31 : decode cX7_hasConflict 31 = .ok (.iconst 1, 1) := by decide +kernel
theorem dX7_hasConflict_32 : decode cX7_hasConflict 32 = .ok (.ireturn, 1) := by decide +kernel
theorem dX7_hasConflict_33 : decode cX7_hasConflict 33 = .ok (.iinc 2 1, 3) := by decide +kernel
theorem dX7_hasConflict_36 : decode cX7_hasConflict 36 = .ok (.goto (-34), 3) := by decide +kernel
theorem dX7_hasConflict_39 : decode cX7_hasConflict 39 = .ok (.iconst 0, 1) := by decide +kernel
theorem dX7_hasConflict_40 : decode cX7_hasConflict 40 = .ok (.ireturn, 1) := by decide +kernel
theorem dX7_hasFullRow_0 : decode cX7_hasFullRow 0 = .ok (.iconst 0, 1) := by decide +kernel
theorem dX7_hasFullRow_1 : decode cX7_hasFullRow 1 = .ok (.istore_n 2, 1) := by decide +kernel
theorem dX7_hasFullRow_2 : decode cX7_hasFullRow 2 = .ok (.iload_n 2, 1) := by decide +kernel
theorem dX7_hasFullRow_3 : decode cX7_hasFullRow 3 = .ok (.bipush 48, 2) := by decide +kernel
theorem dX7_hasFullRow_5 : decode cX7_hasFullRow 5 = .ok (.if_icmp .ge 30, 3) := by decide +kernel
theorem dX7_hasFullRow_8 : decode cX7_hasFullRow 8 = .ok (.aload_n 1, 1) := by decide +kernel
theorem dX7_hasFullRow_9 : decode cX7_hasFullRow 9 = .ok (.iload_n 2, 1) := by decide +kernel
theorem dX7_hasFullRow_10 : decode cX7_hasFullRow 10 = .ok (.invokevirtual 60, 3) := by decide +kernel
theorem dX7_hasFullRow_13 : decode cX7_hasFullRow 13 = .ok (.ifCond .eq 16, 3) := by decide +kernel
theorem dX7_hasFullRow_16 : decode cX7_hasFullRow 16 = .ok (.aload_n 0, 1) := by decide +kernel
theorem dX7_hasFullRow_17 : decode cX7_hasFullRow 17 = .ok (.getfield 21, 3) := by decide +kernel
theorem dX7_hasFullRow_20 : decode cX7_hasFullRow 20 = .ok (.iload_n 2, 1) := by decide +kernel
theorem dX7_hasFullRow_21 : decode cX7_hasFullRow 21 = .ok (.invokevirtual 135, 3) := by decide +kernel
theorem dX7_hasFullRow_24 : decode cX7_hasFullRow 24 = .ok (.ifCond .eq 5, 3) := by decide +kernel
theorem dX7_hasFullRow_27 : decode cX7_hasFullRow 27 = .ok (.iconst 1, 1) := by decide +kernel
theorem dX7_hasFullRow_28 : decode cX7_hasFullRow 28 = .ok (.ireturn, 1) := by decide +kernel
theorem dX7_hasFullRow_29 : decode cX7_hasFullRow 29 = .ok (.iinc 2 1, 3) := by decide +kernel
theorem dX7_hasFullRow_32 : decode cX7_hasFullRow 32 = .ok (.goto (-30), 3) := by decide +kernel
theorem dX7_hasFullRow_35 : decode cX7_hasFullRow 35 = .ok (.iconst 0, 1) := by decide +kernel
theorem dX7_hasFullRow_36 : decode cX7_hasFullRow 36 = .ok (.ireturn, 1) := by decide +kernel
theorem dX7_makesAlike_0 : decode cX7_makesAlike 0 = .ok (.iconst 0, 1) := by decide +kernel
theorem dX7_makesAlike_1 : decode cX7_makesAlike 1 = .ok (.istore_n 3, 1) := by decide +kernel
theorem dX7_makesAlike_2 : decode cX7_makesAlike 2 = .ok (.iload_n 3, 1) := by decide +kernel
theorem dX7_makesAlike_3 : decode cX7_makesAlike 3 = .ok (.iconst 2, 1) := by decide +kernel
theorem dX7_makesAlike_4 : decode cX7_makesAlike 4 = .ok (.if_icmp .ge 60, 3) := by decide +kernel
theorem dX7_makesAlike_7 : decode cX7_makesAlike 7 = .ok (.aload_n 0, 1) := by decide +kernel
theorem dX7_makesAlike_8 : decode cX7_makesAlike 8 = .ok (.getfield 33, 3) := by decide +kernel
theorem dX7_makesAlike_11 : decode cX7_makesAlike 11 = .ok (.iload_n 3, 1) := by decide +kernel
theorem dX7_makesAlike_12 : decode cX7_makesAlike 12 = .ok (.aaload, 1) := by decide +kernel
theorem dX7_makesAlike_13 : decode cX7_makesAlike 13 = .ok (.astore 4, 2) := by decide +kernel
theorem dX7_makesAlike_15 : decode cX7_makesAlike 15 = .ok (.aload 4, 2) := by decide +kernel
theorem dX7_makesAlike_17 : decode cX7_makesAlike 17 = .ok (.getfield 111, 3) := by decide +kernel
theorem dX7_makesAlike_20 : decode cX7_makesAlike 20 = .ok (.iconst 4, 1) := by decide +kernel
theorem dX7_makesAlike_21 : decode cX7_makesAlike 21 = .ok (.if_icmp .ne 37, 3) := by decide +kernel
theorem dX7_makesAlike_24 : decode cX7_makesAlike 24 = .ok (.aload 4, 2) := by decide +kernel
theorem dX7_makesAlike_26 : decode cX7_makesAlike 26 = .ok (.getfield 138, 3) := by decide +kernel
theorem dX7_makesAlike_29 : decode cX7_makesAlike 29 = .ok (.getfield 142, 3) := by decide +kernel
theorem dX7_makesAlike_32 : decode cX7_makesAlike 32 = .ok (.ifCond .ne 6, 3) := by decide +kernel
theorem dX7_makesAlike_35 : decode cX7_makesAlike 35 = .ok (.goto 23, 3) := by decide +kernel
theorem dX7_makesAlike_38 : decode cX7_makesAlike 38 = .ok (.aload_n 0, 1) := by decide +kernel
theorem dX7_makesAlike_39 : decode cX7_makesAlike 39 = .ok (.aload 4, 2) := by decide +kernel
theorem dX7_makesAlike_41 : decode cX7_makesAlike 41 = .ok (.getfield 138, 3) := by decide +kernel
theorem dX7_makesAlike_44 : decode cX7_makesAlike 44 = .ok (.aload_n 1, 1) := by decide +kernel
theorem dX7_makesAlike_45 : decode cX7_makesAlike 45 = .ok (.aload_n 2, 1) := by decide +kernel
theorem dX7_makesAlike_46 : decode cX7_makesAlike 46 = .ok (.invokevirtual 145, 3) := by decide +kernel
theorem dX7_makesAlike_49 : decode cX7_makesAlike 49 = .ok (.aload_n 2, 1) := by decide +kernel
theorem dX7_makesAlike_50 : decode cX7_makesAlike 50 = .ok (.invokevirtual 149, 3) := by decide +kernel
theorem dX7_makesAlike_53 : decode cX7_makesAlike 53 = .ok (.ifCond .eq 5, 3) := by decide +kernel
theorem dX7_makesAlike_56 : decode cX7_makesAlike 56 = .ok (.iconst 1, 1) := by decide +kernel
theorem dX7_makesAlike_57 : decode cX7_makesAlike 57 = .ok (.ireturn, 1) := by decide +kernel
theorem dX7_makesAlike_58 : decode cX7_makesAlike 58 = .ok (.iinc 3 1, 3) := by decide +kernel
theorem dX7_makesAlike_61 : decode cX7_makesAlike 61 = .ok (.goto (-59), 3) := by decide +kernel
theorem dX7_makesAlike_64 : decode cX7_makesAlike 64 = .ok (.iconst 0, 1) := by decide +kernel
theorem dX7_makesAlike_65 : decode cX7_makesAlike 65 = .ok (.ireturn, 1) := by decide +kernel
theorem dX7_gatherSnaps_0 : decode cX7_gatherSnaps 0 = .ok (.iconst 0, 1) := by decide +kernel
theorem dX7_gatherSnaps_1 : decode cX7_gatherSnaps 1 = .ok (.istore_n 1, 1) := by decide +kernel
theorem dX7_gatherSnaps_2 : decode cX7_gatherSnaps 2 = .ok (.aload_n 0, 1) := by decide +kernel
theorem dX7_gatherSnaps_3 : decode cX7_gatherSnaps 3 = .ok (.getfield 37, 3) := by decide +kernel
theorem dX7_gatherSnaps_6 : decode cX7_gatherSnaps 6 = .ok (.iload_n 1, 1) := by decide +kernel
theorem dX7_gatherSnaps_7 : decode cX7_gatherSnaps 7 = .ok (.iinc 1 1, 3) := by decide +kernel
theorem dX7_gatherSnaps_10 : decode cX7_gatherSnaps 10 = .ok (.aload_n 0, 1) := by decide +kernel
theorem dX7_gatherSnaps_11 : decode cX7_gatherSnaps 11 = .ok (.getfield 43, 3) := by decide +kernel
theorem dX7_gatherSnaps_14 : decode cX7_gatherSnaps 14 = .ok (.iastore, 1) := by decide +kernel
theorem dX7_gatherSnaps_15 : decode cX7_gatherSnaps 15 = .ok (.iconst 0, 1) := by decide +kernel
theorem dX7_gatherSnaps_16 : decode cX7_gatherSnaps 16 = .ok (.istore_n 2, 1) := by decide +kernel
theorem dX7_gatherSnaps_17 : decode cX7_gatherSnaps 17 = .ok (.iload_n 2, 1) := by decide +kernel
theorem dX7_gatherSnaps_18 : decode cX7_gatherSnaps 18 = .ok (.iconst 4, 1) := by decide +kernel
theorem dX7_gatherSnaps_19 : decode cX7_gatherSnaps 19 = .ok (.if_icmp .ge 39, 3) := by decide +kernel
theorem dX7_gatherSnaps_22 : decode cX7_gatherSnaps 22 = .ok (.aload_n 0, 1) := by decide +kernel
theorem dX7_gatherSnaps_23 : decode cX7_gatherSnaps 23 = .ok (.getfield 27, 3) := by decide +kernel
theorem dX7_gatherSnaps_26 : decode cX7_gatherSnaps 26 = .ok (.iload_n 2, 1) := by decide +kernel
theorem dX7_gatherSnaps_27 : decode cX7_gatherSnaps 27 = .ok (.aaload, 1) := by decide +kernel
theorem dX7_gatherSnaps_28 : decode cX7_gatherSnaps 28 = .ok (.getfield 114, 3) := by decide +kernel
theorem dX7_gatherSnaps_31 : decode cX7_gatherSnaps 31 = .ok (.ifCond .eq 21, 3) := by decide +kernel
theorem dX7_gatherSnaps_34 : decode cX7_gatherSnaps 34 = .ok (.aload_n 0, 1) := by decide +kernel
theorem dX7_gatherSnaps_35 : decode cX7_gatherSnaps 35 = .ok (.getfield 37, 3) := by decide +kernel
theorem dX7_gatherSnaps_38 : decode cX7_gatherSnaps 38 = .ok (.iload_n 1, 1) := by decide +kernel
theorem dX7_gatherSnaps_39 : decode cX7_gatherSnaps 39 = .ok (.iinc 1 1, 3) := by decide +kernel
theorem dX7_gatherSnaps_42 : decode cX7_gatherSnaps 42 = .ok (.aload_n 0, 1) := by decide +kernel
theorem dX7_gatherSnaps_43 : decode cX7_gatherSnaps 43 = .ok (.getfield 27, 3) := by decide +kernel
theorem dX7_gatherSnaps_46 : decode cX7_gatherSnaps 46 = .ok (.iload_n 2, 1) := by decide +kernel
theorem dX7_gatherSnaps_47 : decode cX7_gatherSnaps 47 = .ok (.aaload, 1) := by decide +kernel
theorem dX7_gatherSnaps_48 : decode cX7_gatherSnaps 48 = .ok (.getfield 67, 3) := by decide +kernel
theorem dX7_gatherSnaps_51 : decode cX7_gatherSnaps 51 = .ok (.iastore, 1) := by decide +kernel
theorem dX7_gatherSnaps_52 : decode cX7_gatherSnaps 52 = .ok (.iinc 2 1, 3) := by decide +kernel
theorem dX7_gatherSnaps_55 : decode cX7_gatherSnaps 55 = .ok (.goto (-38), 3) := by decide +kernel
theorem dX7_gatherSnaps_58 : decode cX7_gatherSnaps 58 = .ok (.iconst 0, 1) := by decide +kernel
theorem dX7_gatherSnaps_59 : decode cX7_gatherSnaps 59 = .ok (.istore_n 2, 1) := by decide +kernel
theorem dX7_gatherSnaps_60 : decode cX7_gatherSnaps 60 = .ok (.iload_n 2, 1) := by decide +kernel
theorem dX7_gatherSnaps_61 : decode cX7_gatherSnaps 61 = .ok (.iconst 2, 1) := by decide +kernel
theorem dX7_gatherSnaps_62 : decode cX7_gatherSnaps 62 = .ok (.if_icmp .ge 40, 3) := by decide +kernel
theorem dX7_gatherSnaps_65 : decode cX7_gatherSnaps 65 = .ok (.aload_n 0, 1) := by decide +kernel
theorem dX7_gatherSnaps_66 : decode cX7_gatherSnaps 66 = .ok (.getfield 33, 3) := by decide +kernel
theorem dX7_gatherSnaps_69 : decode cX7_gatherSnaps 69 = .ok (.iload_n 2, 1) := by decide +kernel
theorem dX7_gatherSnaps_70 : decode cX7_gatherSnaps 70 = .ok (.aaload, 1) := by decide +kernel
theorem dX7_gatherSnaps_71 : decode cX7_gatherSnaps 71 = .ok (.getfield 111, 3) := by decide +kernel
theorem dX7_gatherSnaps_74 : decode cX7_gatherSnaps 74 = .ok (.iconst 1, 1) := by decide +kernel
theorem dX7_gatherSnaps_75 : decode cX7_gatherSnaps 75 = .ok (.if_icmp .ne 21, 3) := by decide +kernel
theorem dX7_gatherSnaps_78 : decode cX7_gatherSnaps 78 = .ok (.aload_n 0, 1) := by decide +kernel
theorem dX7_gatherSnaps_79 : decode cX7_gatherSnaps 79 = .ok (.getfield 37, 3) := by decide +kernel
theorem dX7_gatherSnaps_82 : decode cX7_gatherSnaps 82 = .ok (.iload_n 1, 1) := by decide +kernel
theorem dX7_gatherSnaps_83 : decode cX7_gatherSnaps 83 = .ok (.iinc 1 1, 3) := by decide +kernel
theorem dX7_gatherSnaps_86 : decode cX7_gatherSnaps 86 = .ok (.aload_n 0, 1) := by decide +kernel
theorem dX7_gatherSnaps_87 : decode cX7_gatherSnaps 87 = .ok (.getfield 33, 3) := by decide +kernel
theorem dX7_gatherSnaps_90 : decode cX7_gatherSnaps 90 = .ok (.iload_n 2, 1) := by decide +kernel
theorem dX7_gatherSnaps_91 : decode cX7_gatherSnaps 91 = .ok (.aaload, 1) := by decide +kernel
theorem dX7_gatherSnaps_92 : decode cX7_gatherSnaps 92 = .ok (.getfield 152, 3) := by decide +kernel
theorem dX7_gatherSnaps_95 : decode cX7_gatherSnaps 95 = .ok (.iastore, 1) := by decide +kernel
theorem dX7_gatherSnaps_96 : decode cX7_gatherSnaps 96 = .ok (.iinc 2 1, 3) := by decide +kernel
theorem dX7_gatherSnaps_99 : decode cX7_gatherSnaps 99 = .ok (.goto (-39), 3) := by decide +kernel
theorem dX7_gatherSnaps_102 : decode cX7_gatherSnaps 102 = .ok (.iload_n 1, 1) := by decide +kernel
theorem dX7_gatherSnaps_103 : decode cX7_gatherSnaps 103 = .ok (.ireturn, 1) := by decide +kernel
theorem dX8_init_0 : decode cX8_init 0 = .ok (.aload_n 0, 1) := by decide +kernel
theorem dX8_init_1 : decode cX8_init 1 = .ok (.invokespecial 3, 3) := by decide +kernel
theorem dX8_init_4 : decode cX8_init 4 = .ok (.aload_n 0, 1) := by decide +kernel
theorem dX8_init_5 : decode cX8_init 5 = .ok (.bipush 100, 2) := by decide +kernel
theorem dX8_init_7 : decode cX8_init 7 = .ok (.newarray .int, 2) := by decide +kernel
theorem dX8_init_9 : decode cX8_init 9 = .ok (.putfield 9, 3) := by decide +kernel
theorem dX8_init_12 : decode cX8_init 12 = .ok (.aload_n 0, 1) := by decide +kernel
theorem dX8_init_13 : decode cX8_init 13 = .ok (.iconst (-1), 1) := by decide +kernel
theorem dX8_init_14 : decode cX8_init 14 = .ok (.putfield 15, 3) := by decide +kernel
theorem dX8_init_17 : decode cX8_init 17 = .ok (.return_, 1) := by decide +kernel
theorem dX8_append_0 : decode cX8_append 0 = .ok (.bipush 24, 2) := by decide +kernel
theorem dX8_append_2 : decode cX8_append 2 = .ok (.istore_n 2, 1) := by decide +kernel
theorem dX8_append_3 : decode cX8_append 3 = .ok (.iload_n 2, 1) := by decide +kernel
theorem dX8_append_4 : decode cX8_append 4 = .ok (.ifCond .lt 44, 3) := by decide +kernel
theorem dX8_append_7 : decode cX8_append 7 = .ok (.aload_n 0, 1) := by decide +kernel
theorem dX8_append_8 : decode cX8_append 8 = .ok (.getfield 19, 3) := by decide +kernel
theorem dX8_append_11 : decode cX8_append 11 = .ok (.bipush 100, 2) := by decide +kernel
theorem dX8_append_13 : decode cX8_append 13 = .ok (.if_icmp .ge 29, 3) := by decide +kernel
theorem dX8_append_16 : decode cX8_append 16 = .ok (.aload_n 0, 1) := by decide +kernel
theorem dX8_append_17 : decode cX8_append 17 = .ok (.getfield 9, 3) := by decide +kernel
theorem dX8_append_20 : decode cX8_append 20 = .ok (.aload_n 0, 1) := by decide +kernel
theorem dX8_append_21 : decode cX8_append 21 = .ok (.getfield 19, 3) := by decide +kernel
theorem dX8_append_24 : decode cX8_append 24 = .ok (.iload_n 1, 1) := by decide +kernel
theorem dX8_append_25 : decode cX8_append 25 = .ok (.iload_n 2, 1) := by decide +kernel
theorem dX8_append_26 : decode cX8_append 26 = .ok (.iushr, 1) := by decide +kernel
theorem dX8_append_27 : decode cX8_append 27 = .ok (.sipush 255, 3) := by decide +kernel
theorem dX8_append_30 : decode cX8_append 30 = .ok (.iand, 1) := by decide +kernel
theorem dX8_append_31 : decode cX8_append 31 = .ok (.iastore, 1) := by decide +kernel
theorem dX8_append_32 : decode cX8_append 32 = .ok (.aload_n 0, 1) := by decide +kernel
theorem dX8_append_33 : decode cX8_append 33 = .ok (.dup, 1) := by decide +kernel
theorem dX8_append_34 : decode cX8_append 34 = .ok (.getfield 19, 3) := by decide +kernel
theorem dX8_append_37 : decode cX8_append 37 = .ok (.iconst 1, 1) := by decide +kernel
theorem dX8_append_38 : decode cX8_append 38 = .ok (.iadd, 1) := by decide +kernel
theorem dX8_append_39 : decode cX8_append 39 = .ok (.putfield 19, 3) := by decide +kernel
theorem dX8_append_42 : decode cX8_append 42 = .ok (.iinc 2 (-8), 3) := by decide +kernel
theorem dX8_append_45 : decode cX8_append 45 = .ok (.goto (-42), 3) := by decide +kernel
theorem dX8_append_48 : decode cX8_append 48 = .ok (.return_, 1) := by decide +kernel
theorem dX8_readDefinition_0 : decode cX8_readDefinition 0 = .ok (.aload_n 0, 1) := by decide +kernel
theorem dX8_readDefinition_1 : decode cX8_readDefinition 1 = .ok (.iload_n 1, 1) := by decide +kernel
theorem dX8_readDefinition_2 : decode cX8_readDefinition 2 = .ok (.invokevirtual 22, 3) := by decide +kernel
theorem dX8_readDefinition_5 : decode cX8_readDefinition 5 = .ok (.aload_n 2, 1) := by decide +kernel
theorem dX8_readDefinition_6 : decode cX8_readDefinition 6 = .ok (.invokevirtual 26, 3) := by decide +kernel
theorem dX8_readDefinition_9 : decode cX8_readDefinition 9 = .ok (.aload_n 0, 1) := by decide +kernel
theorem dX8_readDefinition_10 : decode cX8_readDefinition 10 = .ok (.ldc 31, 2) := by decide +kernel
theorem dX8_readDefinition_12 : decode cX8_readDefinition 12 = .ok (.invokevirtual 33, 3) := by decide +kernel
theorem dX8_readDefinition_15 : decode cX8_readDefinition 15 = .ok (.ifCond .ne 9, 3) := by decide +kernel
theorem dX8_readDefinition_18 : decode cX8_readDefinition 18 = .ok (.aload_n 0, 1) := by decide +kernel
theorem dX8_readDefinition_19 : decode cX8_readDefinition 19 = .ok (.iconst 1, 1) := by decide +kernel
theorem dX8_readDefinition_20 : decode cX8_readDefinition 20 = .ok (.invokevirtual 37, 3) := by decide +kernel
theorem dX8_readDefinition_23 : decode cX8_readDefinition 23 = .ok (.ireturn, 1) := by decide +kernel
theorem dX8_readDefinition_24 : decode cX8_readDefinition 24 = .ok (.aload_n 0, 1) := by decide +kernel
theorem dX8_readDefinition_25 : decode cX8_readDefinition 25 = .ok (.aload_n 2, 1) := by decide +kernel
theorem dX8_readDefinition_26 : decode cX8_readDefinition 26 = .ok (.getfield 41, 3) := by decide +kernel
theorem dX8_readDefinition_29 : decode cX8_readDefinition 29 = .ok (.invokevirtual 45, 3) := by decide +kernel
theorem dX8_readDefinition_32 : decode cX8_readDefinition 32 = .ok (.ifCond .ne 5, 3) := by decide +kernel
theorem dX8_readDefinition_35 : decode cX8_readDefinition 35 = .ok (.iconst 0, 1) := by decide +kernel
theorem dX8_readDefinition_36 : decode cX8_readDefinition 36 = .ok (.ireturn, 1) := by decide +kernel
theorem dX8_readDefinition_37 : decode cX8_readDefinition 37 = .ok (.aload_n 2, 1) := by decide +kernel
theorem dX8_readDefinition_38 : decode cX8_readDefinition 38 = .ok (.aload_n 0, 1) := by decide +kernel
theorem dX8_readDefinition_39 : decode cX8_readDefinition 39 = .ok (.ldc 49, 2) := by decide +kernel
theorem dX8_readDefinition_41 : decode cX8_readDefinition 41 = .ok (.invokevirtual 33, 3) := by decide +kernel
theorem dX8_readDefinition_44 : decode cX8_readDefinition 44 = .ok (.putfield 51, 3) := by decide +kernel
theorem dX8_readDefinition_47 : decode cX8_readDefinition 47 = .ok (.aload_n 2, 1) := by decide +kernel
theorem dX8_readDefinition_48 : decode cX8_readDefinition 48 = .ok (.aload_n 0, 1) := by decide +kernel
theorem dX8_readDefinition_49 : decode cX8_readDefinition 49 = .ok (.ldc 54, 2) := by decide +kernel
theorem dX8_readDefinition_51 : decode cX8_readDefinition 51 = .ok (.invokevirtual 33, 3) := by decide +kernel
theorem dX8_readDefinition_54 : decode cX8_readDefinition 54 = .ok (.putfield 56, 3) := by decide +kernel
theorem dX8_readDefinition_57 : decode cX8_readDefinition 57 = .ok (.aload_n 2, 1) := by decide +kernel
theorem dX8_readDefinition_58 : decode cX8_readDefinition 58 = .ok (.getfield 56, 3) := by decide +kernel
theorem dX8_readDefinition_61 : decode cX8_readDefinition 61 = .ok (.ifCond .eq 16, 3) := by decide +kernel
theorem dX8_readDefinition_64 : decode cX8_readDefinition 64 = .ok (.aload_n 0, 1) := by decide +kernel
theorem dX8_readDefinition_65 : decode cX8_readDefinition 65 = .ok (.aload_n 2, 1) := by decide +kernel
theorem dX8_readDefinition_66 : decode cX8_readDefinition 66 = .ok (.getfield 59, 3) := by decide +kernel
theorem dX8_readDefinition_69 : decode cX8_readDefinition 69 = .ok (.invokevirtual 62, 3) := by decide +kernel
theorem dX8_readDefinition_72 : decode cX8_readDefinition 72 = .ok (.ifCond .ne 5, 3) := by decide +kernel
theorem dX8_readDefinition_75 : decode cX8_readDefinition 75 = .ok (.iconst 0, 1) := by decide +kernel
theorem dX8_readDefinition_76 : decode cX8_readDefinition 76 = .ok (.ireturn, 1) := by decide +kernel
theorem dX8_readDefinition_77 : decode cX8_readDefinition 77 = .ok (.aload_n 0, 1) := by decide +kernel
theorem dX8_readDefinition_78 : decode cX8_readDefinition 78 = .ok (.invokevirtual 66, 3) := by decide +kernel
theorem dX8_readDefinition_81 : decode cX8_readDefinition 81 = .ok (.ifCond .ne 11, 3) := by decide +kernel
theorem dX8_readDefinition_84 : decode cX8_readDefinition 84 = .ok (.aload_n 0, 1) := by decide +kernel
theorem dX8_readDefinition_85 : decode cX8_readDefinition 85 = .ok (.iconst 1, 1) := by decide +kernel
theorem dX8_readDefinition_86 : decode cX8_readDefinition 86 = .ok (.invokevirtual 37, 3) := by decide +kernel
theorem dX8_readDefinition_89 : decode cX8_readDefinition 89 = .ok (.ifCond .eq 7, 3) := by decide +kernel
theorem dX8_readDefinition_92 : decode cX8_readDefinition 92 = .ok (.iconst 1, 1) := by decide +kernel
theorem dX8_readDefinition_93 : decode cX8_readDefinition 93 = .ok (.goto 4, 3) := by decide +kernel
theorem dX8_readDefinition_96 : decode cX8_readDefinition 96 = .ok (.iconst 0, 1) := by decide +kernel
theorem dX8_readDefinition_97 : decode cX8_readDefinition 97 = .ok (.ireturn, 1) := by decide +kernel
theorem dX8_readQuestion_0 : decode cX8_readQuestion 0 = .ok (.aload_n 0, 1) := by decide +kernel
theorem dX8_readQuestion_1 : decode cX8_readQuestion 1 = .ok (.iload_n 1, 1) := by decide +kernel
theorem dX8_readQuestion_2 : decode cX8_readQuestion 2 = .ok (.invokevirtual 22, 3) := by decide +kernel
theorem dX8_readQuestion_5 : decode cX8_readQuestion 5 = .ok (.aload_n 2, 1) := by decide +kernel
theorem dX8_readQuestion_6 : decode cX8_readQuestion 6 = .ok (.invokevirtual 70, 3) := by decide +kernel
theorem dX8_readQuestion_9 : decode cX8_readQuestion 9 = .ok (.aload_n 0, 1) := by decide +kernel
theorem dX8_readQuestion_10 : decode cX8_readQuestion 10 = .ok (.ldc 73, 2) := by decide +kernel
theorem dX8_readQuestion_12 : decode cX8_readQuestion 12 = .ok (.invokevirtual 33, 3) := by decide +kernel
theorem dX8_readQuestion_15 : decode cX8_readQuestion 15 = .ok (.ifCond .ne 9, 3) := by decide +kernel
theorem dX8_readQuestion_18 : decode cX8_readQuestion 18 = .ok (.aload_n 0, 1) := by decide +kernel
theorem dX8_readQuestion_19 : decode cX8_readQuestion 19 = .ok (.iconst 1, 1) := by decide +kernel
theorem dX8_readQuestion_20 : decode cX8_readQuestion 20 = .ok (.invokevirtual 37, 3) := by decide +kernel
theorem dX8_readQuestion_23 : decode cX8_readQuestion 23 = .ok (.ireturn, 1) := by decide +kernel
theorem dX8_readQuestion_24 : decode cX8_readQuestion 24 = .ok (.aload_n 0, 1) := by decide +kernel
theorem dX8_readQuestion_25 : decode cX8_readQuestion 25 = .ok (.invokevirtual 75, 3) := by decide +kernel
theorem dX8_readQuestion_28 : decode cX8_readQuestion 28 = .ok (.iconst (-1), 1) := by decide +kernel
theorem dX8_readQuestion_29 : decode cX8_readQuestion 29 = .ok (.if_icmp .eq 13, 3) := by decide +kernel
theorem dX8_readQuestion_32 : decode cX8_readQuestion 32 = .ok (.aload_n 0, 1) := by decide +kernel
theorem dX8_readQuestion_33 : decode cX8_readQuestion 33 = .ok (.aload_n 2, 1) := by decide +kernel
theorem dX8_readQuestion_34 : decode cX8_readQuestion 34 = .ok (.invokevirtual 79, 3) := by decide +kernel
theorem dX8_readQuestion_37 : decode cX8_readQuestion 37 = .ok (.ifCond .ne 5, 3) := by decide +kernel
theorem dX8_readQuestion_40 : decode cX8_readQuestion 40 = .ok (.iconst 0, 1) := by decide +kernel
theorem dX8_readQuestion_41 : decode cX8_readQuestion 41 = .ok (.ireturn, 1) := by decide +kernel
theorem dX8_readQuestion_42 : decode cX8_readQuestion 42 = .ok (.aload_n 0, 1) := by decide +kernel
theorem dX8_readQuestion_43 : decode cX8_readQuestion 43 = .ok (.ldc 83, 2) := by decide +kernel
theorem dX8_readQuestion_45 : decode cX8_readQuestion 45 = .ok (.invokevirtual 33, 3) := by decide +kernel
theorem dX8_readQuestion_48 : decode cX8_readQuestion 48 = .ok (.ifCond .eq 16, 3) := by decide +kernel
theorem dX8_readQuestion_51 : decode cX8_readQuestion 51 = .ok (.aload_n 0, 1) := by decide +kernel
theorem dX8_readQuestion_52 : decode cX8_readQuestion 52 = .ok (.aload_n 2, 1) := by decide +kernel
theorem dX8_readQuestion_53 : decode cX8_readQuestion 53 = .ok (.getfield 84, 3) := by decide +kernel
theorem dX8_readQuestion_56 : decode cX8_readQuestion 56 = .ok (.invokevirtual 45, 3) := by decide +kernel
theorem dX8_readQuestion_59 : decode cX8_readQuestion 59 = .ok (.ifCond .ne 5, 3) := by decide +kernel
theorem dX8_readQuestion_62 : decode cX8_readQuestion 62 = .ok (.iconst 0, 1) := by decide +kernel
theorem dX8_readQuestion_63 : decode cX8_readQuestion 63 = .ok (.ireturn, 1) := by decide +kernel
theorem dX8_readQuestion_64 : decode cX8_readQuestion 64 = .ok (.aload_n 0, 1) := by decide +kernel
theorem dX8_readQuestion_65 : decode cX8_readQuestion 65 = .ok (.invokevirtual 66, 3) := by decide +kernel
theorem dX8_readQuestion_68 : decode cX8_readQuestion 68 = .ok (.ifCond .ne 11, 3) := by decide +kernel
theorem dX8_readQuestion_71 : decode cX8_readQuestion 71 = .ok (.aload_n 0, 1) := by decide +kernel
theorem dX8_readQuestion_72 : decode cX8_readQuestion 72 = .ok (.iconst 1, 1) := by decide +kernel
theorem dX8_readQuestion_73 : decode cX8_readQuestion 73 = .ok (.invokevirtual 37, 3) := by decide +kernel
theorem dX8_readQuestion_76 : decode cX8_readQuestion 76 = .ok (.ifCond .eq 7, 3) := by decide +kernel
theorem dX8_readQuestion_79 : decode cX8_readQuestion 79 = .ok (.iconst 1, 1) := by decide +kernel
theorem dX8_readQuestion_80 : decode cX8_readQuestion 80 = .ok (.goto 4, 3) := by decide +kernel
theorem dX8_readQuestion_83 : decode cX8_readQuestion 83 = .ok (.iconst 0, 1) := by decide +kernel
theorem dX8_readQuestion_84 : decode cX8_readQuestion 84 = .ok (.ireturn, 1) := by decide +kernel
theorem dX8_open_0 : decode cX8_open 0 = .ok (.aload_n 0, 1) := by decide +kernel
theorem dX8_open_1 : decode cX8_open 1 = .ok (.iconst 0, 1) := by decide +kernel
theorem dX8_open_2 : decode cX8_open 2 = .ok (.iload_n 1, 1) := by decide +kernel
theorem dX8_open_3 : decode cX8_open 3 = .ok (.aload_n 0, 1) := by decide +kernel
theorem dX8_open_4 : decode cX8_open 4 = .ok (.getfield 19, 3) := by decide +kernel
theorem dX8_open_7 : decode cX8_open 7 = .ok (.invokestatic 87, 3) := by decide +kernel
theorem dX8_open_10 : decode cX8_open 10 = .ok (.invokestatic 93, 3) := by decide +kernel
theorem dX8_open_13 : decode cX8_open 13 = .ok (.putfield 96, 3) := by decide +kernel
theorem dX8_open_16 : decode cX8_open 16 = .ok (.aload_n 0, 1) := by decide +kernel
theorem dX8_open_17 : decode cX8_open 17 = .ok (.iconst 0, 1) := by decide +kernel
theorem dX8_open_18 : decode cX8_open 18 = .ok (.putfield 19, 3) := by decide +kernel
theorem dX8_open_21 : decode cX8_open 21 = .ok (.aload_n 0, 1) := by decide +kernel
theorem dX8_open_22 : decode cX8_open 22 = .ok (.iconst 0, 1) := by decide +kernel
theorem dX8_open_23 : decode cX8_open 23 = .ok (.putfield 99, 3) := by decide +kernel
theorem dX8_open_26 : decode cX8_open 26 = .ok (.aload_n 0, 1) := by decide +kernel
theorem dX8_open_27 : decode cX8_open 27 = .ok (.iconst 0, 1) := by decide +kernel
theorem dX8_open_28 : decode cX8_open 28 = .ok (.putfield 102, 3) := by decide +kernel
theorem dX8_open_31 : decode cX8_open 31 = .ok (.aload_n 0, 1) := by decide +kernel
theorem dX8_open_32 : decode cX8_open 32 = .ok (.iconst (-1), 1) := by decide +kernel
theorem dX8_open_33 : decode cX8_open 33 = .ok (.putfield 15, 3) := by decide +kernel
theorem dX8_open_36 : decode cX8_open 36 = .ok (.aload_n 0, 1) := by decide +kernel
theorem dX8_open_37 : decode cX8_open 37 = .ok (.invokevirtual 105, 3) := by decide +kernel
theorem dX8_open_40 : decode cX8_open 40 = .ok (.return_, 1) := by decide +kernel
theorem dX8_readOrder_0 : decode cX8_readOrder 0 = .ok (.iconst 0, 1) := by decide +kernel
theorem dX8_readOrder_1 : decode cX8_readOrder 1 = .ok (.istore_n 2, 1) := by decide +kernel
theorem dX8_readOrder_2 : decode cX8_readOrder 2 = .ok (.iload_n 2, 1) := by decide +kernel
theorem dX8_readOrder_3 : decode cX8_readOrder 3 = .ok (.iconst 3, 1) := by decide +kernel
theorem dX8_readOrder_4 : decode cX8_readOrder 4 = .ok (.if_icmp .gt 72, 3) := by decide +kernel
theorem dX8_readOrder_7 : decode cX8_readOrder 7 = .ok (.aload_n 0, 1) := by decide +kernel
theorem dX8_readOrder_8 : decode cX8_readOrder 8 = .ok (.invokevirtual 75, 3) := by decide +kernel
theorem dX8_readOrder_11 : decode cX8_readOrder 11 = .ok (.istore_n 3, 1) := by decide +kernel
theorem dX8_readOrder_12 : decode cX8_readOrder 12 = .ok (.iload_n 3, 1) := by decide +kernel
theorem dX8_readOrder_13 : decode cX8_readOrder 13 = .ok (.iconst (-1), 1) := by decide +kernel
theorem dX8_readOrder_14 : decode cX8_readOrder 14 = .ok (.if_icmp .ne 9, 3) := by decide +kernel
theorem dX8_readOrder_17 : decode cX8_readOrder 17 = .ok (.aload_n 0, 1) := by decide +kernel
theorem dX8_readOrder_18 : decode cX8_readOrder 18 = .ok (.iconst 1, 1) := by decide +kernel
theorem dX8_readOrder_19 : decode cX8_readOrder 19 = .ok (.invokevirtual 37, 3) := by decide +kernel
theorem dX8_readOrder_22 : decode cX8_readOrder 22 = .ok (.ireturn, 1) := by decide +kernel
theorem dX8_readOrder_23 : decode cX8_readOrder 23 = .ok (.aload_n 1, 1) := by decide +kernel
theorem dX8_readOrder_24 : decode cX8_readOrder 24 = .ok (.iload_n 3, 1) := by decide +kernel
theorem dX8_readOrder_25 : decode cX8_readOrder 25 = .ok (.invokevirtual 108, 3) := by decide +kernel
theorem dX8_readOrder_28 : decode cX8_readOrder 28 = .ok (.iconst (-1), 1) := by decide +kernel
theorem dX8_readOrder_29 : decode cX8_readOrder 29 = .ok (.if_icmp .eq 9, 3) := by decide +kernel
theorem dX8_readOrder_32 : decode cX8_readOrder 32 = .ok (.aload_n 0, 1) := by decide +kernel
theorem dX8_readOrder_33 : decode cX8_readOrder 33 = .ok (.iconst 3, 1) := by decide +kernel
theorem dX8_readOrder_34 : decode cX8_readOrder 34 = .ok (.invokevirtual 37, 3) := by decide +kernel
theorem dX8_readOrder_37 : decode cX8_readOrder 37 = .ok (.ireturn, 1) := by decide +kernel
theorem dX8_readOrder_38 : decode cX8_readOrder 38 = .ok (.aload_n 0, 1) := by decide +kernel
theorem dX8_readOrder_39 : decode cX8_readOrder 39 = .ok (.aload_n 0, 1) := by decide +kernel
theorem dX8_readOrder_40 : decode cX8_readOrder 40 = .ok (.getfield 99, 3) := by decide +kernel
theorem dX8_readOrder_43 : decode cX8_readOrder 43 = .ok (.iconst 1, 1) := by decide +kernel
theorem dX8_readOrder_44 : decode cX8_readOrder 44 = .ok (.iadd, 1) := by decide +kernel
theorem dX8_readOrder_45 : decode cX8_readOrder 45 = .ok (.invokevirtual 114, 3) := by decide +kernel
theorem dX8_readOrder_48 : decode cX8_readOrder 48 = .ok (.aload_n 1, 1) := by decide +kernel
theorem dX8_readOrder_49 : decode cX8_readOrder 49 = .ok (.iload_n 3, 1) := by decide +kernel
theorem dX8_readOrder_50 : decode cX8_readOrder 50 = .ok (.aload_n 0, 1) := by decide +kernel
theorem dX8_readOrder_51 : decode cX8_readOrder 51 = .ok (.ldc 117, 2) := by decide +kernel
theorem dX8_readOrder_53 : decode cX8_readOrder 53 = .ok (.invokevirtual 33, 3) := by decide +kernel
theorem dX8_readOrder_56 : decode cX8_readOrder 56 = .ok (.invokevirtual 119, 3) := by decide +kernel
theorem dX8_readOrder_59 : decode cX8_readOrder 59 = .ok (.aload_n 0, 1) := by decide +kernel
theorem dX8_readOrder_60 : decode cX8_readOrder 60 = .ok (.bipush 44, 2) := by decide +kernel
theorem dX8_readOrder_62 : decode cX8_readOrder 62 = .ok (.invokevirtual 123, 3) := by decide +kernel
theorem dX8_readOrder_65 : decode cX8_readOrder 65 = .ok (.ifCond .ne 5, 3) := by decide +kernel
theorem dX8_readOrder_68 : decode cX8_readOrder 68 = .ok (.iconst 1, 1) := by decide +kernel
theorem dX8_readOrder_69 : decode cX8_readOrder 69 = .ok (.ireturn, 1) := by decide +kernel
theorem dX8_readOrder_70 : decode cX8_readOrder 70 = .ok (.iinc 2 1, 3) := by decide +kernel
theorem dX8_readOrder_73 : decode cX8_readOrder 73 = .ok (.goto (-71), 3) := by decide +kernel
theorem dX8_readOrder_76 : decode cX8_readOrder 76 = .ok (.aload_n 0, 1) := by decide +kernel
theorem dX8_readOrder_77 : decode cX8_readOrder 77 = .ok (.iconst 1, 1) := by decide +kernel
theorem dX8_readOrder_78 : decode cX8_readOrder 78 = .ok (.invokevirtual 37, 3) := by decide +kernel
theorem dX8_readOrder_81 : decode cX8_readOrder 81 = .ok (.ireturn, 1) := by decide +kernel
theorem dX8_readConditions_0 : decode cX8_readConditions 0 = .ok (.iconst 0, 1) := by decide +kernel
theorem dX8_readConditions_1 : decode cX8_readConditions 1 = .ok (.istore_n 2, 1) := by decide +kernel
theorem dX8_readConditions_2 : decode cX8_readConditions 2 = .ok (.iload_n 2, 1) := by decide +kernel
theorem dX8_readConditions_3 : decode cX8_readConditions 3 = .ok (.iconst 4, 1) := by decide +kernel
theorem dX8_readConditions_4 : decode cX8_readConditions 4 = .ok (.if_icmp .gt 70, 3) := by decide +kernel
theorem dX8_readConditions_7 : decode cX8_readConditions 7 = .ok (.aload_n 0, 1) := by decide +kernel
theorem dX8_readConditions_8 : decode cX8_readConditions 8 = .ok (.invokevirtual 75, 3) := by decide +kernel
theorem dX8_readConditions_11 : decode cX8_readConditions 11 = .ok (.iconst (-1), 1) := by decide +kernel
theorem dX8_readConditions_12 : decode cX8_readConditions 12 = .ok (.if_icmp .ne 9, 3) := by decide +kernel
theorem dX8_readConditions_15 : decode cX8_readConditions 15 = .ok (.aload_n 0, 1) := by decide +kernel
theorem dX8_readConditions_16 : decode cX8_readConditions 16 = .ok (.iconst 1, 1) := by decide +kernel
theorem dX8_readConditions_17 : decode cX8_readConditions 17 = .ok (.invokevirtual 37, 3) := by decide +kernel
theorem dX8_readConditions_20 : decode cX8_readConditions 20 = .ok (.ireturn, 1) := by decide +kernel
theorem dX8_readConditions_21 : decode cX8_readConditions 21 = .ok (.iload_n 2, 1) := by decide +kernel
theorem dX8_readConditions_22 : decode cX8_readConditions 22 = .ok (.iconst 4, 1) := by decide +kernel
theorem dX8_readConditions_23 : decode cX8_readConditions 23 = .ok (.if_icmp .ne 9, 3) := by decide +kernel
theorem dX8_readConditions_26 : decode cX8_readConditions 26 = .ok (.aload_n 0, 1) := by decide +kernel
theorem dX8_readConditions_27 : decode cX8_readConditions 27 = .ok (.iconst 4, 1) := by decide +kernel
theorem dX8_readConditions_28 : decode cX8_readConditions 28 = .ok (.invokevirtual 37, 3) := by decide +kernel
theorem dX8_readConditions_31 : decode cX8_readConditions 31 = .ok (.ireturn, 1) := by decide +kernel
theorem dX8_readConditions_32 : decode cX8_readConditions 32 = .ok (.aload_n 0, 1) := by decide +kernel
theorem dX8_readConditions_33 : decode cX8_readConditions 33 = .ok (.aload_n 1, 1) := by decide +kernel
theorem dX8_readConditions_34 : decode cX8_readConditions 34 = .ok (.getfield 127, 3) := by decide +kernel
theorem dX8_readConditions_37 : decode cX8_readConditions 37 = .ok (.iload_n 2, 1) := by decide +kernel
theorem dX8_readConditions_38 : decode cX8_readConditions 38 = .ok (.aaload, 1) := by decide +kernel
theorem dX8_readConditions_39 : decode cX8_readConditions 39 = .ok (.invokevirtual 62, 3) := by decide +kernel
theorem dX8_readConditions_42 : decode cX8_readConditions 42 = .ok (.ifCond .ne 5, 3) := by decide +kernel
theorem dX8_readConditions_45 : decode cX8_readConditions 45 = .ok (.iconst 0, 1) := by decide +kernel
theorem dX8_readConditions_46 : decode cX8_readConditions 46 = .ok (.ireturn, 1) := by decide +kernel
theorem dX8_readConditions_47 : decode cX8_readConditions 47 = .ok (.aload_n 1, 1) := by decide +kernel
theorem dX8_readConditions_48 : decode cX8_readConditions 48 = .ok (.dup, 1) := by decide +kernel
theorem dX8_readConditions_49 : decode cX8_readConditions 49 = .ok (.getfield 131, 3) := by decide +kernel
theorem dX8_readConditions_52 : decode cX8_readConditions 52 = .ok (.iconst 1, 1) := by decide +kernel
theorem dX8_readConditions_53 : decode cX8_readConditions 53 = .ok (.iadd, 1) := by decide +kernel
theorem dX8_readConditions_54 : decode cX8_readConditions 54 = .ok (.putfield 131, 3) := by decide +kernel
theorem dX8_readConditions_57 : decode cX8_readConditions 57 = .ok (.aload_n 0, 1) := by decide +kernel
theorem dX8_readConditions_58 : decode cX8_readConditions 58 = .ok (.ldc 134, 2) := by decide +kernel
theorem dX8_readConditions_60 : decode cX8_readConditions 60 = .ok (.invokevirtual 33, 3) := by decide +kernel
theorem dX8_readConditions_63 : decode cX8_readConditions 63 = .ok (.ifCond .ne 5, 3) := by decide +kernel
theorem dX8_readConditions_66 : decode cX8_readConditions 66 = .ok (.iconst 1, 1) := by decide +kernel
theorem dX8_readConditions_67 : decode cX8_readConditions 67 = .ok (.ireturn, 1) := by decide +kernel
theorem dX8_readConditions_68 : decode cX8_readConditions 68 = .ok (.iinc 2 1, 3) := by decide +kernel
theorem dX8_readConditions_71 : decode cX8_readConditions 71 = .ok (.goto (-69), 3) := by decide +kernel
theorem dX8_readConditions_74 : decode cX8_readConditions 74 = .ok (.aload_n 0, 1) := by decide +kernel
theorem dX8_readConditions_75 : decode cX8_readConditions 75 = .ok (.iconst 1, 1) := by decide +kernel
theorem dX8_readConditions_76 : decode cX8_readConditions 76 = .ok (.invokevirtual 37, 3) := by decide +kernel
theorem dX8_readConditions_79 : decode cX8_readConditions 79 = .ok (.ireturn, 1) := by decide +kernel
theorem dX8_readCondition_0 : decode cX8_readCondition 0 = .ok (.aload_n 0, 1) := by decide +kernel
theorem dX8_readCondition_1 : decode cX8_readCondition 1 = .ok (.invokevirtual 75, 3) := by decide +kernel
theorem dX8_readCondition_4 : decode cX8_readCondition 4 = .ok (.istore_n 2, 1) := by decide +kernel
theorem dX8_readCondition_5 : decode cX8_readCondition 5 = .ok (.iload_n 2, 1) := by decide +kernel
theorem dX8_readCondition_6 : decode cX8_readCondition 6 = .ok (.iconst (-1), 1) := by decide +kernel
theorem dX8_readCondition_7 : decode cX8_readCondition 7 = .ok (.if_icmp .ne 9, 3) := by decide +kernel
theorem dX8_readCondition_10 : decode cX8_readCondition 10 = .ok (.aload_n 0, 1) := by decide +kernel
theorem dX8_readCondition_11 : decode cX8_readCondition 11 = .ok (.iconst 1, 1) := by decide +kernel
theorem dX8_readCondition_12 : decode cX8_readCondition 12 = .ok (.invokevirtual 37, 3) := by decide +kernel
theorem dX8_readCondition_15 : decode cX8_readCondition 15 = .ok (.ireturn, 1) := by decide +kernel
theorem dX8_readCondition_16 : decode cX8_readCondition 16 = .ok (.aload_n 0, 1) := by decide +kernel
theorem dX8_readCondition_17 : decode cX8_readCondition 17 = .ok (.aload_n 0, 1) := by decide +kernel
theorem dX8_readCondition_18 : decode cX8_readCondition 18 = .ok (.getfield 99, 3) := by decide +kernel
theorem dX8_readCondition_21 : decode cX8_readCondition 21 = .ok (.iconst 1, 1) := by decide +kernel
theorem dX8_readCondition_22 : decode cX8_readCondition 22 = .ok (.iadd, 1) := by decide +kernel
theorem dX8_readCondition_23 : decode cX8_readCondition 23 = .ok (.invokevirtual 114, 3) := by decide +kernel
theorem dX8_readCondition_26 : decode cX8_readCondition 26 = .ok (.aload_n 0, 1) := by decide +kernel
theorem dX8_readCondition_27 : decode cX8_readCondition 27 = .ok (.invokevirtual 136, 3) := by decide +kernel
theorem dX8_readCondition_30 : decode cX8_readCondition 30 = .ok (.istore_n 3, 1) := by decide +kernel
theorem dX8_readCondition_31 : decode cX8_readCondition 31 = .ok (.iload_n 3, 1) := by decide +kernel
theorem dX8_readCondition_32 : decode cX8_readCondition 32 = .ok (.iconst (-1), 1) := by decide +kernel
theorem dX8_readCondition_33 : decode cX8_readCondition 33 = .ok (.if_icmp .ne 9, 3) := by decide +kernel
theorem dX8_readCondition_36 : decode cX8_readCondition 36 = .ok (.aload_n 0, 1) := by decide +kernel
theorem dX8_readCondition_37 : decode cX8_readCondition 37 = .ok (.iconst 1, 1) := by decide +kernel
theorem dX8_readCondition_38 : decode cX8_readCondition 38 = .ok (.invokevirtual 37, 3) := by decide +kernel
theorem dX8_readCondition_41 : decode cX8_readCondition 41 = .ok (.ireturn, 1) := by decide +kernel
theorem dX8_readCondition_42 : decode cX8_readCondition 42 = .ok (.aload_n 0, 1) := by decide +kernel
theorem dX8_readCondition_43 : decode cX8_readCondition 43 = .ok (.aload_n 0, 1) := by decide +kernel
theorem dX8_readCondition_44 : decode cX8_readCondition 44 = .ok (.getfield 99, 3) := by decide +kernel
theorem dX8_readCondition_47 : decode cX8_readCondition 47 = .ok (.iconst 1, 1) := by decide +kernel
theorem dX8_readCondition_48 : decode cX8_readCondition 48 = .ok (.iadd, 1) := by decide +kernel
theorem dX8_readCondition_49 : decode cX8_readCondition 49 = .ok (.invokevirtual 114, 3) := by decide +kernel
theorem dX8_readCondition_52 : decode cX8_readCondition 52 = .ok (.aload_n 0, 1) := by decide +kernel
theorem dX8_readCondition_53 : decode cX8_readCondition 53 = .ok (.invokevirtual 139, 3) := by decide +kernel
theorem dX8_readCondition_56 : decode cX8_readCondition 56 = .ok (.istore 4, 2) := by decide +kernel
theorem dX8_readCondition_58 : decode cX8_readCondition 58 = .ok (.iload 4, 2) := by decide +kernel
theorem dX8_readCondition_60 : decode cX8_readCondition 60 = .ok (.ifCond .ne 9, 3) := by decide +kernel
theorem dX8_readCondition_63 : decode cX8_readCondition 63 = .ok (.aload_n 0, 1) := by decide +kernel
theorem dX8_readCondition_64 : decode cX8_readCondition 64 = .ok (.iconst 1, 1) := by decide +kernel
theorem dX8_readCondition_65 : decode cX8_readCondition 65 = .ok (.invokevirtual 37, 3) := by decide +kernel
theorem dX8_readCondition_68 : decode cX8_readCondition 68 = .ok (.ireturn, 1) := by decide +kernel
theorem dX8_readCondition_69 : decode cX8_readCondition 69 = .ok (.iload 4, 2) := by decide +kernel
theorem dX8_readCondition_71 : decode cX8_readCondition 71 = .ok (.iconst 2, 1) := by decide +kernel
theorem dX8_readCondition_72 : decode cX8_readCondition 72 = .ok (.if_icmp .le 9, 3) := by decide +kernel
theorem dX8_readCondition_75 : decode cX8_readCondition 75 = .ok (.aload_n 0, 1) := by decide +kernel
theorem dX8_readCondition_76 : decode cX8_readCondition 76 = .ok (.iconst 2, 1) := by decide +kernel
theorem dX8_readCondition_77 : decode cX8_readCondition 77 = .ok (.invokevirtual 37, 3) := by decide +kernel
theorem dX8_readCondition_80 : decode cX8_readCondition 80 = .ok (.ireturn, 1) := by decide +kernel
theorem dX8_readCondition_81 : decode cX8_readCondition 81 = .ok (.aload_n 0, 1) := by decide +kernel
theorem dX8_readCondition_82 : decode cX8_readCondition 82 = .ok (.aload_n 0, 1) := by decide +kernel
theorem dX8_readCondition_83 : decode cX8_readCondition 83 = .ok (.getfield 99, 3) := by decide +kernel
theorem dX8_readCondition_86 : decode cX8_readCondition 86 = .ok (.invokevirtual 142, 3) := by decide +kernel
theorem dX8_readCondition_89 : decode cX8_readCondition 89 = .ok (.bipush 48, 2) := by decide +kernel
theorem dX8_readCondition_91 : decode cX8_readCondition 91 = .ok (.isub, 1) := by decide +kernel
theorem dX8_readCondition_92 : decode cX8_readCondition 92 = .ok (.istore 5, 2) := by decide +kernel
theorem dX8_readCondition_94 : decode cX8_readCondition 94 = .ok (.iload 4, 2) := by decide +kernel
theorem dX8_readCondition_96 : decode cX8_readCondition 96 = .ok (.iconst 2, 1) := by decide +kernel
theorem dX8_readCondition_97 : decode cX8_readCondition 97 = .ok (.if_icmp .ne 24, 3) := by decide +kernel
theorem dX8_readCondition_100 : decode cX8_readCondition 100 = .ok (.iload 5, 2) := by decide +kernel
theorem dX8_readCondition_102 : decode cX8_readCondition 102 = .ok (.bipush 10, 2) := by decide +kernel
theorem dX8_readCondition_104 : decode cX8_readCondition 104 = .ok (.imul, 1) := by decide +kernel
theorem dX8_readCondition_105 : decode cX8_readCondition 105 = .ok (.aload_n 0, 1) := by decide +kernel
theorem dX8_readCondition_106 : decode cX8_readCondition 106 = .ok (.aload_n 0, 1) := by decide +kernel
theorem dX8_readCondition_107 : decode cX8_readCondition 107 = .ok (.getfield 99, 3) := by decide +kernel
theorem dX8_readCondition_110 : decode cX8_readCondition 110 = .ok (.iconst 1, 1) := by decide +kernel
theorem dX8_readCondition_111 : decode cX8_readCondition 111 = .ok (.iadd, 1) := by decide +kernel
theorem dX8_readCondition_112 : decode cX8_readCondition 112 = .ok (.invokevirtual 142, 3) := by decide +kernel
theorem dX8_readCondition_115 : decode cX8_readCondition 115 = .ok (.iadd, 1) := by decide +kernel
theorem dX8_readCondition_116 : decode cX8_readCondition 116 = .ok (.bipush 48, 2) := by decide +kernel
theorem dX8_readCondition_118 : decode cX8_readCondition 118 = .ok (.isub, 1) := by decide +kernel
theorem dX8_readCondition_119 : decode cX8_readCondition 119 = .ok (.istore 5, 2) := by decide +kernel
theorem dX8_readCondition_121 : decode cX8_readCondition 121 = .ok (.aload_n 1, 1) := by decide +kernel
theorem dX8_readCondition_122 : decode cX8_readCondition 122 = .ok (.iload_n 2, 1) := by decide +kernel
theorem dX8_readCondition_123 : decode cX8_readCondition 123 = .ok (.iload_n 3, 1) := by decide +kernel
theorem dX8_readCondition_124 : decode cX8_readCondition 124 = .ok (.iload 5, 2) := by decide +kernel
theorem dX8_readCondition_126 : decode cX8_readCondition 126 = .ok (.invokevirtual 145, 3) := by decide +kernel
theorem dX8_readCondition_129 : decode cX8_readCondition 129 = .ok (.aload_n 0, 1) := by decide +kernel
theorem dX8_readCondition_130 : decode cX8_readCondition 130 = .ok (.aload_n 0, 1) := by decide +kernel
theorem dX8_readCondition_131 : decode cX8_readCondition 131 = .ok (.getfield 99, 3) := by decide +kernel
theorem dX8_readCondition_134 : decode cX8_readCondition 134 = .ok (.iload 4, 2) := by decide +kernel
theorem dX8_readCondition_136 : decode cX8_readCondition 136 = .ok (.iadd, 1) := by decide +kernel
theorem dX8_readCondition_137 : decode cX8_readCondition 137 = .ok (.invokevirtual 114, 3) := by decide +kernel
theorem dX8_readCondition_140 : decode cX8_readCondition 140 = .ok (.iconst 1, 1) := by decide +kernel
theorem dX8_readCondition_141 : decode cX8_readCondition 141 = .ok (.ireturn, 1) := by decide +kernel
theorem dX8_refuse_0 : decode cX8_refuse 0 = .ok (.aload_n 0, 1) := by decide +kernel
theorem dX8_refuse_1 : decode cX8_refuse 1 = .ok (.iload_n 1, 1) := by decide +kernel
theorem dX8_refuse_2 : decode cX8_refuse 2 = .ok (.putfield 102, 3) := by decide +kernel
theorem dX8_refuse_5 : decode cX8_refuse 5 = .ok (.aload_n 0, 1) := by decide +kernel
theorem dX8_refuse_6 : decode cX8_refuse 6 = .ok (.aload_n 0, 1) := by decide +kernel
theorem dX8_refuse_7 : decode cX8_refuse 7 = .ok (.getfield 99, 3) := by decide +kernel
theorem dX8_refuse_10 : decode cX8_refuse 10 = .ok (.putfield 15, 3) := by decide +kernel
theorem dX8_refuse_13 : decode cX8_refuse 13 = .ok (.iconst 0, 1) := by decide +kernel
theorem dX8_refuse_14 : decode cX8_refuse 14 = .ok (.ireturn, 1) := by decide +kernel
theorem dX8_isAtEnd_0 : decode cX8_isAtEnd 0 = .ok (.aload_n 0, 1) := by decide +kernel
theorem dX8_isAtEnd_1 : decode cX8_isAtEnd 1 = .ok (.getfield 99, 3) := by decide +kernel
theorem dX8_isAtEnd_4 : decode cX8_isAtEnd 4 = .ok (.aload_n 0, 1) := by decide +kernel
theorem dX8_isAtEnd_5 : decode cX8_isAtEnd 5 = .ok (.getfield 96, 3) := by decide +kernel
theorem dX8_isAtEnd_8 : decode cX8_isAtEnd 8 = .ok (.if_icmp .lt 7, 3) := by decide +kernel
theorem dX8_isAtEnd_11 : decode cX8_isAtEnd 11 = .ok (.iconst 1, 1) := by decide +kernel
theorem dX8_isAtEnd_12 : decode cX8_isAtEnd 12 = .ok (.goto 4, 3) := by decide +kernel
theorem dX8_isAtEnd_15 : decode cX8_isAtEnd 15 = .ok (.iconst 0, 1) := by decide +kernel
theorem dX8_isAtEnd_16 : decode cX8_isAtEnd 16 = .ok (.ireturn, 1) := by decide +kernel
theorem dX8_byteAt_0 : decode cX8_byteAt 0 = .ok (.iload_n 1, 1) := by decide +kernel
theorem dX8_byteAt_1 : decode cX8_byteAt 1 = .ok (.ifCond .lt 20, 3) := by decide +kernel
theorem dX8_byteAt_4 : decode cX8_byteAt 4 = .ok (.iload_n 1, 1) := by decide +kernel
theorem dX8_byteAt_5 : decode cX8_byteAt 5 = .ok (.aload_n 0, 1) := by decide +kernel
theorem dX8_byteAt_6 : decode cX8_byteAt 6 = .ok (.getfield 96, 3) := by decide +kernel
theorem dX8_byteAt_9 : decode cX8_byteAt 9 = .ok (.if_icmp .ge 12, 3) := by decide +kernel
theorem dX8_byteAt_12 : decode cX8_byteAt 12 = .ok (.aload_n 0, 1) := by decide +kernel
theorem dX8_byteAt_13 : decode cX8_byteAt 13 = .ok (.getfield 9, 3) := by decide +kernel
theorem dX8_byteAt_16 : decode cX8_byteAt 16 = .ok (.iload_n 1, 1) := by decide +kernel
theorem dX8_byteAt_17 : decode cX8_byteAt 17 = .ok (.iaload, 1) := by decide +kernel
theorem dX8_byteAt_18 : decode cX8_byteAt 18 = .ok (.goto 4, 3) := by decide +kernel
theorem dX8_byteAt_21 : decode cX8_byteAt 21 = .ok (.iconst (-1), 1) := by decide +kernel
theorem dX8_byteAt_22 : decode cX8_byteAt 22 = .ok (.ireturn, 1) := by decide +kernel
theorem dX8_goTo_0 : decode cX8_goTo 0 = .ok (.aload_n 0, 1) := by decide +kernel
theorem dX8_goTo_1 : decode cX8_goTo 1 = .ok (.iload_n 1, 1) := by decide +kernel
theorem dX8_goTo_2 : decode cX8_goTo 2 = .ok (.putfield 99, 3) := by decide +kernel
theorem dX8_goTo_5 : decode cX8_goTo 5 = .ok (.aload_n 0, 1) := by decide +kernel
theorem dX8_goTo_6 : decode cX8_goTo 6 = .ok (.invokevirtual 105, 3) := by decide +kernel
theorem dX8_goTo_9 : decode cX8_goTo 9 = .ok (.return_, 1) := by decide +kernel
theorem dX8_skipBlanks_0 : decode cX8_skipBlanks 0 = .ok (.aload_n 0, 1) := by decide +kernel
theorem dX8_skipBlanks_1 : decode cX8_skipBlanks 1 = .ok (.getfield 99, 3) := by decide +kernel
theorem dX8_skipBlanks_4 : decode cX8_skipBlanks 4 = .ok (.istore_n 1, 1) := by decide +kernel
theorem dX8_skipBlanks_5 : decode cX8_skipBlanks 5 = .ok (.iload_n 1, 1) := by decide +kernel
theorem dX8_skipBlanks_6 : decode cX8_skipBlanks 6 = .ok (.aload_n 0, 1) := by decide +kernel
theorem dX8_skipBlanks_7 : decode cX8_skipBlanks 7 = .ok (.getfield 96, 3) := by decide +kernel
theorem dX8_skipBlanks_10 : decode cX8_skipBlanks 10 = .ok (.if_icmp .ge 27, 3) := by decide +kernel
theorem dX8_skipBlanks_13 : decode cX8_skipBlanks 13 = .ok (.aload_n 0, 1) := by decide +kernel
theorem dX8_skipBlanks_14 : decode cX8_skipBlanks 14 = .ok (.getfield 9, 3) := by decide +kernel
theorem dX8_skipBlanks_17 : decode cX8_skipBlanks 17 = .ok (.iload_n 1, 1) := by decide +kernel
theorem dX8_skipBlanks_18 : decode cX8_skipBlanks 18 = .ok (.iaload, 1) := by decide +kernel
theorem dX8_skipBlanks_19 : decode cX8_skipBlanks 19 = .ok (.bipush 32, 2) := by decide +kernel
theorem dX8_skipBlanks_21 : decode cX8_skipBlanks 21 = .ok (.if_icmp .ne 16, 3) := by decide +kernel
theorem dX8_skipBlanks_24 : decode cX8_skipBlanks 24 = .ok (.aload_n 0, 1) := by decide +kernel
theorem dX8_skipBlanks_25 : decode cX8_skipBlanks 25 = .ok (.iload_n 1, 1) := by decide +kernel
theorem dX8_skipBlanks_26 : decode cX8_skipBlanks 26 = .ok (.iconst 1, 1) := by decide +kernel
theorem dX8_skipBlanks_27 : decode cX8_skipBlanks 27 = .ok (.iadd, 1) := by decide +kernel
theorem dX8_skipBlanks_28 : decode cX8_skipBlanks 28 = .ok (.putfield 99, 3) := by decide +kernel
theorem dX8_skipBlanks_31 : decode cX8_skipBlanks 31 = .ok (.iinc 1 1, 3) := by decide +kernel
theorem dX8_skipBlanks_34 : decode cX8_skipBlanks 34 = .ok (.goto (-29), 3) := by decide +kernel
theorem dX8_skipBlanks_37 : decode cX8_skipBlanks 37 = .ok (.return_, 1) := by decide +kernel
theorem dX8_lettersHere_0 : decode cX8_lettersHere 0 = .ok (.iconst 0, 1) := by decide +kernel
theorem dX8_lettersHere_1 : decode cX8_lettersHere 1 = .ok (.istore_n 1, 1) := by decide +kernel
theorem dX8_lettersHere_2 : decode cX8_lettersHere 2 = .ok (.aload_n 0, 1) := by decide +kernel
theorem dX8_lettersHere_3 : decode cX8_lettersHere 3 = .ok (.getfield 99, 3) := by decide +kernel
theorem dX8_lettersHere_6 : decode cX8_lettersHere 6 = .ok (.istore_n 2, 1) := by decide +kernel
theorem dX8_lettersHere_7 : decode cX8_lettersHere 7 = .ok (.iload_n 2, 1) := by decide +kernel
theorem dX8_lettersHere_8 : decode cX8_lettersHere 8 = .ok (.aload_n 0, 1) := by decide +kernel
theorem dX8_lettersHere_9 : decode cX8_lettersHere 9 = .ok (.getfield 96, 3) := by decide +kernel
theorem dX8_lettersHere_12 : decode cX8_lettersHere 12 = .ok (.if_icmp .ge 34, 3) := by decide +kernel
theorem dX8_lettersHere_15 : decode cX8_lettersHere 15 = .ok (.aload_n 0, 1) := by decide +kernel
theorem dX8_lettersHere_16 : decode cX8_lettersHere 16 = .ok (.getfield 9, 3) := by decide +kernel
theorem dX8_lettersHere_19 : decode cX8_lettersHere 19 = .ok (.iload_n 2, 1) := by decide +kernel
theorem dX8_lettersHere_20 : decode cX8_lettersHere 20 = .ok (.iaload, 1) := by decide +kernel
theorem dX8_lettersHere_21 : decode cX8_lettersHere 21 = .ok (.bipush 97, 2) := by decide +kernel
theorem dX8_lettersHere_23 : decode cX8_lettersHere 23 = .ok (.if_icmp .lt 23, 3) := by decide +kernel
theorem dX8_lettersHere_26 : decode cX8_lettersHere 26 = .ok (.aload_n 0, 1) := by decide +kernel
theorem dX8_lettersHere_27 : decode cX8_lettersHere 27 = .ok (.getfield 9, 3) := by decide +kernel
theorem dX8_lettersHere_30 : decode cX8_lettersHere 30 = .ok (.iload_n 2, 1) := by decide +kernel
theorem dX8_lettersHere_31 : decode cX8_lettersHere 31 = .ok (.iaload, 1) := by decide +kernel
theorem dX8_lettersHere_32 : decode cX8_lettersHere 32 = .ok (.bipush 122, 2) := by decide +kernel
theorem dX8_lettersHere_34 : decode cX8_lettersHere 34 = .ok (.if_icmp .gt 12, 3) := by decide +kernel
theorem dX8_lettersHere_37 : decode cX8_lettersHere 37 = .ok (.iinc 1 1, 3) := by decide +kernel
theorem dX8_lettersHere_40 : decode cX8_lettersHere 40 = .ok (.iinc 2 1, 3) := by decide +kernel
theorem dX8_lettersHere_43 : decode cX8_lettersHere 43 = .ok (.goto (-36), 3) := by decide +kernel
theorem dX8_lettersHere_46 : decode cX8_lettersHere 46 = .ok (.iload_n 1, 1) := by decide +kernel
theorem dX8_lettersHere_47 : decode cX8_lettersHere 47 = .ok (.ireturn, 1) := by decide +kernel
theorem dX8_digitsHere_0 : decode cX8_digitsHere 0 = .ok (.iconst 0, 1) := by decide +kernel
theorem dX8_digitsHere_1 : decode cX8_digitsHere 1 = .ok (.istore_n 1, 1) := by decide +kernel
theorem dX8_digitsHere_2 : decode cX8_digitsHere 2 = .ok (.aload_n 0, 1) := by decide +kernel
theorem dX8_digitsHere_3 : decode cX8_digitsHere 3 = .ok (.getfield 99, 3) := by decide +kernel
theorem dX8_digitsHere_6 : decode cX8_digitsHere 6 = .ok (.istore_n 2, 1) := by decide +kernel
theorem dX8_digitsHere_7 : decode cX8_digitsHere 7 = .ok (.iload_n 2, 1) := by decide +kernel
theorem dX8_digitsHere_8 : decode cX8_digitsHere 8 = .ok (.aload_n 0, 1) := by decide +kernel
theorem dX8_digitsHere_9 : decode cX8_digitsHere 9 = .ok (.getfield 96, 3) := by decide +kernel
theorem dX8_digitsHere_12 : decode cX8_digitsHere 12 = .ok (.if_icmp .ge 34, 3) := by decide +kernel
theorem dX8_digitsHere_15 : decode cX8_digitsHere 15 = .ok (.aload_n 0, 1) := by decide +kernel
theorem dX8_digitsHere_16 : decode cX8_digitsHere 16 = .ok (.getfield 9, 3) := by decide +kernel
theorem dX8_digitsHere_19 : decode cX8_digitsHere 19 = .ok (.iload_n 2, 1) := by decide +kernel
theorem dX8_digitsHere_20 : decode cX8_digitsHere 20 = .ok (.iaload, 1) := by decide +kernel
theorem dX8_digitsHere_21 : decode cX8_digitsHere 21 = .ok (.bipush 48, 2) := by decide +kernel
theorem dX8_digitsHere_23 : decode cX8_digitsHere 23 = .ok (.if_icmp .lt 23, 3) := by decide +kernel
theorem dX8_digitsHere_26 : decode cX8_digitsHere 26 = .ok (.aload_n 0, 1) := by decide +kernel
theorem dX8_digitsHere_27 : decode cX8_digitsHere 27 = .ok (.getfield 9, 3) := by decide +kernel
theorem dX8_digitsHere_30 : decode cX8_digitsHere 30 = .ok (.iload_n 2, 1) := by decide +kernel
theorem dX8_digitsHere_31 : decode cX8_digitsHere 31 = .ok (.iaload, 1) := by decide +kernel
theorem dX8_digitsHere_32 : decode cX8_digitsHere 32 = .ok (.bipush 57, 2) := by decide +kernel
theorem dX8_digitsHere_34 : decode cX8_digitsHere 34 = .ok (.if_icmp .gt 12, 3) := by decide +kernel
theorem dX8_digitsHere_37 : decode cX8_digitsHere 37 = .ok (.iinc 1 1, 3) := by decide +kernel
theorem dX8_digitsHere_40 : decode cX8_digitsHere 40 = .ok (.iinc 2 1, 3) := by decide +kernel
theorem dX8_digitsHere_43 : decode cX8_digitsHere 43 = .ok (.goto (-36), 3) := by decide +kernel
theorem dX8_digitsHere_46 : decode cX8_digitsHere 46 = .ok (.iload_n 1, 1) := by decide +kernel
theorem dX8_digitsHere_47 : decode cX8_digitsHere 47 = .ok (.ireturn, 1) := by decide +kernel
theorem dX8_takeWord_0 : decode cX8_takeWord 0 = .ok (.aload_n 0, 1) := by decide +kernel
theorem dX8_takeWord_1 : decode cX8_takeWord 1 = .ok (.invokevirtual 151, 3) := by decide +kernel
theorem dX8_takeWord_4 : decode cX8_takeWord 4 = .ok (.aload_n 1, 1) := by decide +kernel
theorem dX8_takeWord_5 : decode cX8_takeWord 5 = .ok (.invokevirtual 154, 3) := by decide +kernel
theorem dX8_takeWord_8 : decode cX8_takeWord 8 = .ok (.if_icmp .eq 5, 3) := by decide +kernel
theorem dX8_takeWord_11 : decode cX8_takeWord 11 = .ok (.iconst 0, 1) := by decide +kernel
theorem dX8_takeWord_12 : decode cX8_takeWord 12 = .ok (.ireturn, 1) := by decide +kernel
theorem dX8_takeWord_13 : decode cX8_takeWord 13 = .ok (.iconst 0, 1) := by decide +kernel
theorem dX8_takeWord_14 : decode cX8_takeWord 14 = .ok (.istore_n 2, 1) := by decide +kernel
theorem dX8_takeWord_15 : decode cX8_takeWord 15 = .ok (.iload_n 2, 1) := by decide +kernel
theorem dX8_takeWord_16 : decode cX8_takeWord 16 = .ok (.aload_n 1, 1) := by decide +kernel
theorem dX8_takeWord_17 : decode cX8_takeWord 17 = .ok (.invokevirtual 154, 3) := by decide +kernel
theorem dX8_takeWord_20 : decode cX8_takeWord 20 = .ok (.if_icmp .ge 29, 3) := by decide +kernel
theorem dX8_takeWord_23 : decode cX8_takeWord 23 = .ok (.aload_n 0, 1) := by decide +kernel
theorem dX8_takeWord_24 : decode cX8_takeWord 24 = .ok (.aload_n 0, 1) := by decide +kernel
theorem dX8_takeWord_25 : decode cX8_takeWord 25 = .ok (.getfield 99, 3) := by decide +kernel
theorem dX8_takeWord_28 : decode cX8_takeWord 28 = .ok (.iload_n 2, 1) := by decide +kernel
theorem dX8_takeWord_29 : decode cX8_takeWord 29 = .ok (.iadd, 1) := by decide +kernel
theorem dX8_takeWord_30 : decode cX8_takeWord 30 = .ok (.invokevirtual 142, 3) := by decide +kernel
theorem dX8_takeWord_33 : decode cX8_takeWord 33 = .ok (.aload_n 1, 1) := by decide +kernel
theorem dX8_takeWord_34 : decode cX8_takeWord 34 = .ok (.iload_n 2, 1) := by decide +kernel
theorem dX8_takeWord_35 : decode cX8_takeWord 35 = .ok (.invokevirtual 158, 3) := by decide +kernel
theorem dX8_takeWord_38 : decode cX8_takeWord 38 = .ok (.if_icmp .eq 5, 3) := by decide +kernel
theorem dX8_takeWord_41 : decode cX8_takeWord 41 = .ok (.iconst 0, 1) := by decide +kernel
theorem dX8_takeWord_42 : decode cX8_takeWord 42 = .ok (.ireturn, 1) := by decide +kernel
theorem dX8_takeWord_43 : decode cX8_takeWord 43 = .ok (.iinc 2 1, 3) := by decide +kernel
theorem dX8_takeWord_46 : decode cX8_takeWord 46 = .ok (.goto (-31), 3) := by decide +kernel
theorem dX8_takeWord_49 : decode cX8_takeWord 49 = .ok (.aload_n 0, 1) := by decide +kernel
theorem dX8_takeWord_50 : decode cX8_takeWord 50 = .ok (.aload_n 0, 1) := by decide +kernel
theorem dX8_takeWord_51 : decode cX8_takeWord 51 = .ok (.getfield 99, 3) := by decide +kernel
theorem dX8_takeWord_54 : decode cX8_takeWord 54 = .ok (.aload_n 1, 1) := by decide +kernel
theorem dX8_takeWord_55 : decode cX8_takeWord 55 = .ok (.invokevirtual 154, 3) := by decide +kernel
theorem dX8_takeWord_58 : decode cX8_takeWord 58 = .ok (.iadd, 1) := by decide +kernel
theorem dX8_takeWord_59 : decode cX8_takeWord 59 = .ok (.invokevirtual 114, 3) := by decide +kernel
theorem dX8_takeWord_62 : decode cX8_takeWord 62 = .ok (.iconst 1, 1) := by decide +kernel
theorem dX8_takeWord_63 : decode cX8_takeWord 63 = .ok (.ireturn, 1) := by decide +kernel
theorem dX8_takeSign_0 : decode cX8_takeSign 0 = .ok (.aload_n 0, 1) := by decide +kernel
theorem dX8_takeSign_1 : decode cX8_takeSign 1 = .ok (.aload_n 0, 1) := by decide +kernel
theorem dX8_takeSign_2 : decode cX8_takeSign 2 = .ok (.getfield 99, 3) := by decide +kernel
theorem dX8_takeSign_5 : decode cX8_takeSign 5 = .ok (.invokevirtual 142, 3) := by decide +kernel
theorem dX8_takeSign_8 : decode cX8_takeSign 8 = .ok (.iload_n 1, 1) := by decide +kernel
theorem dX8_takeSign_9 : decode cX8_takeSign 9 = .ok (.if_icmp .eq 5, 3) := by decide +kernel
theorem dX8_takeSign_12 : decode cX8_takeSign 12 = .ok (.iconst 0, 1) := by decide +kernel
theorem dX8_takeSign_13 : decode cX8_takeSign 13 = .ok (.ireturn, 1) := by decide +kernel
theorem dX8_takeSign_14 : decode cX8_takeSign 14 = .ok (.aload_n 0, 1) := by decide +kernel
theorem dX8_takeSign_15 : decode cX8_takeSign 15 = .ok (.aload_n 0, 1) := by decide +kernel
theorem dX8_takeSign_16 : decode cX8_takeSign 16 = .ok (.getfield 99, 3) := by decide +kernel
theorem dX8_takeSign_19 : decode cX8_takeSign 19 = .ok (.iconst 1, 1) := by decide +kernel
theorem dX8_takeSign_20 : decode cX8_takeSign 20 = .ok (.iadd, 1) := by decide +kernel
theorem dX8_takeSign_21 : decode cX8_takeSign 21 = .ok (.invokevirtual 114, 3) := by decide +kernel
theorem dX8_takeSign_24 : decode cX8_takeSign 24 = .ok (.iconst 1, 1) := by decide +kernel
theorem dX8_takeSign_25 : decode cX8_takeSign 25 = .ok (.ireturn, 1) := by decide +kernel
theorem dX8_columnHere_0 : decode cX8_columnHere 0 = .ok (.aload_n 0, 1) := by decide +kernel
theorem dX8_columnHere_1 : decode cX8_columnHere 1 = .ok (.aload_n 0, 1) := by decide +kernel
theorem dX8_columnHere_2 : decode cX8_columnHere 2 = .ok (.getfield 99, 3) := by decide +kernel
theorem dX8_columnHere_5 : decode cX8_columnHere 5 = .ok (.invokevirtual 142, 3) := by decide +kernel
theorem dX8_columnHere_8 : decode cX8_columnHere 8 = .ok (.bipush 97, 2) := by decide +kernel
theorem dX8_columnHere_10 : decode cX8_columnHere 10 = .ok (.isub, 1) := by decide +kernel
theorem dX8_columnHere_11 : decode cX8_columnHere 11 = .ok (.istore_n 1, 1) := by decide +kernel
theorem dX8_columnHere_12 : decode cX8_columnHere 12 = .ok (.aload_n 0, 1) := by decide +kernel
theorem dX8_columnHere_13 : decode cX8_columnHere 13 = .ok (.invokevirtual 151, 3) := by decide +kernel
theorem dX8_columnHere_16 : decode cX8_columnHere 16 = .ok (.iconst 1, 1) := by decide +kernel
theorem dX8_columnHere_17 : decode cX8_columnHere 17 = .ok (.if_icmp .ne 12, 3) := by decide +kernel
theorem dX8_columnHere_20 : decode cX8_columnHere 20 = .ok (.iload_n 1, 1) := by decide +kernel
theorem dX8_columnHere_21 : decode cX8_columnHere 21 = .ok (.iconst 3, 1) := by decide +kernel
theorem dX8_columnHere_22 : decode cX8_columnHere 22 = .ok (.if_icmp .ge 7, 3) := by decide +kernel
theorem dX8_columnHere_25 : decode cX8_columnHere 25 = .ok (.iload_n 1, 1) := by decide +kernel
theorem dX8_columnHere_26 : decode cX8_columnHere 26 = .ok (.goto 4, 3) := by decide +kernel
theorem dX8_columnHere_29 : decode cX8_columnHere 29 = .ok (.iconst (-1), 1) := by decide +kernel
theorem dX8_columnHere_30 : decode cX8_columnHere 30 = .ok (.ireturn, 1) := by decide +kernel
theorem dX8_opHere_0 : decode cX8_opHere 0 = .ok (.aload_n 0, 1) := by decide +kernel
theorem dX8_opHere_1 : decode cX8_opHere 1 = .ok (.aload_n 0, 1) := by decide +kernel
theorem dX8_opHere_2 : decode cX8_opHere 2 = .ok (.getfield 99, 3) := by decide +kernel
theorem dX8_opHere_5 : decode cX8_opHere 5 = .ok (.invokevirtual 142, 3) := by decide +kernel
theorem dX8_opHere_8 : decode cX8_opHere 8 = .ok (.lookupswitch 52 #[(33, 46), (60, 48), (61, 44), (62, 50)], 44) := by decide +kernel
theorem dX8_opHere_52 : decode cX8_opHere 52 = .ok (.iconst 0, 1) := by decide +kernel
theorem dX8_opHere_53 : decode cX8_opHere 53 = .ok (.ireturn, 1) := by decide +kernel
theorem dX8_opHere_54 : decode cX8_opHere 54 = .ok (.iconst 1, 1) := by decide +kernel
theorem dX8_opHere_55 : decode cX8_opHere 55 = .ok (.ireturn, 1) := by decide +kernel
theorem dX8_opHere_56 : decode cX8_opHere 56 = .ok (.iconst 2, 1) := by decide +kernel
theorem dX8_opHere_57 : decode cX8_opHere 57 = .ok (.ireturn, 1) := by decide +kernel
theorem dX8_opHere_58 : decode cX8_opHere 58 = .ok (.iconst 3, 1) := by decide +kernel
theorem dX8_opHere_59 : decode cX8_opHere 59 = .ok (.ireturn, 1) := by decide +kernel
theorem dX8_opHere_60 : decode cX8_opHere 60 = .ok (.iconst (-1), 1) := by decide +kernel
theorem dX8_opHere_61 : decode cX8_opHere 61 = .ok (.ireturn, 1) := by decide +kernel
theorem dX9_init_0 : decode cX9_init 0 = .ok (.aload_n 0, 1) := by decide +kernel
theorem dX9_init_1 : decode cX9_init 1 = .ok (.invokespecial 3, 3) := by decide +kernel
theorem dX9_init_4 : decode cX9_init 4 = .ok (.aload_n 0, 1) := by decide +kernel
theorem dX9_init_5 : decode cX9_init 5 = .ok (.bipush 48, 2) := by decide +kernel
theorem dX9_init_7 : decode cX9_init 7 = .ok (.newarray .int, 2) := by decide +kernel
theorem dX9_init_9 : decode cX9_init 9 = .ok (.putfield 9, 3) := by decide +kernel
theorem dX9_init_12 : decode cX9_init 12 = .ok (.iconst 0, 1) := by decide +kernel
theorem dX9_init_13 : decode cX9_init 13 = .ok (.istore_n 1, 1) := by decide +kernel
theorem dX9_init_14 : decode cX9_init 14 = .ok (.iload_n 1, 1) := by decide +kernel
theorem dX9_init_15 : decode cX9_init 15 = .ok (.bipush 48, 2) := by decide +kernel
theorem dX9_init_17 : decode cX9_init 17 = .ok (.if_icmp .ge 17, 3) := by decide +kernel
theorem dX9_init_20 : decode cX9_init 20 = .ok (.aload_n 0, 1) := by decide +kernel
theorem dX9_init_21 : decode cX9_init 21 = .ok (.getfield 9, 3) := by decide +kernel
theorem dX9_init_24 : decode cX9_init 24 = .ok (.iload_n 1, 1) := by decide +kernel
theorem dX9_init_25 : decode cX9_init 25 = .ok (.bipush (-2), 2) := by decide +kernel
theorem dX9_init_27 : decode cX9_init 27 = .ok (.iastore, 1) := by decide +kernel
theorem dX9_init_28 : decode cX9_init 28 = .ok (.iinc 1 1, 3) := by decide +kernel
theorem dX9_init_31 : decode cX9_init 31 = .ok (.goto (-17), 3) := by decide +kernel
theorem dX9_init_34 : decode cX9_init 34 = .ok (.return_, 1) := by decide +kernel
theorem dX9_copyFrom_0 : decode cX9_copyFrom 0 = .ok (.aload_n 0, 1) := by decide +kernel
theorem dX9_copyFrom_1 : decode cX9_copyFrom 1 = .ok (.aload_n 1, 1) := by decide +kernel
theorem dX9_copyFrom_2 : decode cX9_copyFrom 2 = .ok (.getfield 15, 3) := by decide +kernel
theorem dX9_copyFrom_5 : decode cX9_copyFrom 5 = .ok (.putfield 15, 3) := by decide +kernel
theorem dX9_copyFrom_8 : decode cX9_copyFrom 8 = .ok (.aload_n 0, 1) := by decide +kernel
theorem dX9_copyFrom_9 : decode cX9_copyFrom 9 = .ok (.aload_n 1, 1) := by decide +kernel
theorem dX9_copyFrom_10 : decode cX9_copyFrom 10 = .ok (.getfield 19, 3) := by decide +kernel
theorem dX9_copyFrom_13 : decode cX9_copyFrom 13 = .ok (.putfield 19, 3) := by decide +kernel
theorem dX9_copyFrom_16 : decode cX9_copyFrom 16 = .ok (.aload_n 0, 1) := by decide +kernel
theorem dX9_copyFrom_17 : decode cX9_copyFrom 17 = .ok (.aload_n 1, 1) := by decide +kernel
theorem dX9_copyFrom_18 : decode cX9_copyFrom 18 = .ok (.getfield 23, 3) := by decide +kernel
theorem dX9_copyFrom_21 : decode cX9_copyFrom 21 = .ok (.putfield 23, 3) := by decide +kernel
theorem dX9_copyFrom_24 : decode cX9_copyFrom 24 = .ok (.aload_n 1, 1) := by decide +kernel
theorem dX9_copyFrom_25 : decode cX9_copyFrom 25 = .ok (.getfield 9, 3) := by decide +kernel
theorem dX9_copyFrom_28 : decode cX9_copyFrom 28 = .ok (.iconst 0, 1) := by decide +kernel
theorem dX9_copyFrom_29 : decode cX9_copyFrom 29 = .ok (.aload_n 0, 1) := by decide +kernel
theorem dX9_copyFrom_30 : decode cX9_copyFrom 30 = .ok (.getfield 9, 3) := by decide +kernel
theorem dX9_copyFrom_33 : decode cX9_copyFrom 33 = .ok (.iconst 0, 1) := by decide +kernel
theorem dX9_copyFrom_34 : decode cX9_copyFrom 34 = .ok (.bipush 48, 2) := by decide +kernel
theorem dX9_copyFrom_36 : decode cX9_copyFrom 36 = .ok (.invokestatic 26, 3) := by decide +kernel
theorem dX9_copyFrom_39 : decode cX9_copyFrom 39 = .ok (.return_, 1) := by decide +kernel
theorem dX9_start_0 : decode cX9_start 0 = .ok (.aload_n 0, 1) := by decide +kernel
theorem dX9_start_1 : decode cX9_start 1 = .ok (.iconst 1, 1) := by decide +kernel
theorem dX9_start_2 : decode cX9_start 2 = .ok (.putfield 15, 3) := by decide +kernel
theorem dX9_start_5 : decode cX9_start 5 = .ok (.aload_n 0, 1) := by decide +kernel
theorem dX9_start_6 : decode cX9_start 6 = .ok (.iload_n 1, 1) := by decide +kernel
theorem dX9_start_7 : decode cX9_start 7 = .ok (.putfield 19, 3) := by decide +kernel
theorem dX9_start_10 : decode cX9_start 10 = .ok (.return_, 1) := by decide +kernel
theorem dX9_end_0 : decode cX9_end 0 = .ok (.aload_n 0, 1) := by decide +kernel
theorem dX9_end_1 : decode cX9_end 1 = .ok (.iconst 0, 1) := by decide +kernel
theorem dX9_end_2 : decode cX9_end 2 = .ok (.putfield 15, 3) := by decide +kernel
theorem dX9_end_5 : decode cX9_end 5 = .ok (.aload_n 0, 1) := by decide +kernel
theorem dX9_end_6 : decode cX9_end 6 = .ok (.iconst 0, 1) := by decide +kernel
theorem dX9_end_7 : decode cX9_end 7 = .ok (.putfield 19, 3) := by decide +kernel
theorem dX9_end_10 : decode cX9_end 10 = .ok (.aload_n 0, 1) := by decide +kernel
theorem dX9_end_11 : decode cX9_end 11 = .ok (.iconst 0, 1) := by decide +kernel
theorem dX9_end_12 : decode cX9_end 12 = .ok (.putfield 23, 3) := by decide +kernel
theorem dX9_end_15 : decode cX9_end 15 = .ok (.iconst 0, 1) := by decide +kernel
theorem dX9_end_16 : decode cX9_end 16 = .ok (.istore_n 1, 1) := by decide +kernel
theorem dX9_end_17 : decode cX9_end 17 = .ok (.iload_n 1, 1) := by decide +kernel
theorem dX9_end_18 : decode cX9_end 18 = .ok (.bipush 48, 2) := by decide +kernel
theorem dX9_end_20 : decode cX9_end 20 = .ok (.if_icmp .ge 17, 3) := by decide +kernel
theorem dX9_end_23 : decode cX9_end 23 = .ok (.aload_n 0, 1) := by decide +kernel
theorem dX9_end_24 : decode cX9_end 24 = .ok (.getfield 9, 3) := by decide +kernel
theorem dX9_end_27 : decode cX9_end 27 = .ok (.iload_n 1, 1) := by decide +kernel
theorem dX9_end_28 : decode cX9_end 28 = .ok (.bipush (-2), 2) := by decide +kernel
theorem dX9_end_30 : decode cX9_end 30 = .ok (.iastore, 1) := by decide +kernel
theorem dX9_end_31 : decode cX9_end 31 = .ok (.iinc 1 1, 3) := by decide +kernel
theorem dX9_end_34 : decode cX9_end 34 = .ok (.goto (-17), 3) := by decide +kernel
theorem dX9_end_37 : decode cX9_end 37 = .ok (.return_, 1) := by decide +kernel
theorem dX9_hasWritten_0 : decode cX9_hasWritten 0 = .ok (.aload_n 0, 1) := by decide +kernel
theorem dX9_hasWritten_1 : decode cX9_hasWritten 1 = .ok (.getfield 9, 3) := by decide +kernel
theorem dX9_hasWritten_4 : decode cX9_hasWritten 4 = .ok (.iload_n 1, 1) := by decide +kernel
theorem dX9_hasWritten_5 : decode cX9_hasWritten 5 = .ok (.iaload, 1) := by decide +kernel
theorem dX9_hasWritten_6 : decode cX9_hasWritten 6 = .ok (.bipush (-2), 2) := by decide +kernel
theorem dX9_hasWritten_8 : decode cX9_hasWritten 8 = .ok (.if_icmp .eq 7, 3) := by decide +kernel
theorem dX9_hasWritten_11 : decode cX9_hasWritten 11 = .ok (.iconst 1, 1) := by decide +kernel
theorem dX9_hasWritten_12 : decode cX9_hasWritten 12 = .ok (.goto 4, 3) := by decide +kernel
theorem dX9_hasWritten_15 : decode cX9_hasWritten 15 = .ok (.iconst 0, 1) := by decide +kernel
theorem dX9_hasWritten_16 : decode cX9_hasWritten 16 = .ok (.ireturn, 1) := by decide +kernel
theorem dX9_hasRoomFor_0 : decode cX9_hasRoomFor 0 = .ok (.aload_n 0, 1) := by decide +kernel
theorem dX9_hasRoomFor_1 : decode cX9_hasRoomFor 1 = .ok (.iload_n 1, 1) := by decide +kernel
theorem dX9_hasRoomFor_2 : decode cX9_hasRoomFor 2 = .ok (.invokevirtual 32, 3) := by decide +kernel
theorem dX9_hasRoomFor_5 : decode cX9_hasRoomFor 5 = .ok (.ifCond .ne 12, 3) := by decide +kernel
theorem dX9_hasRoomFor_8 : decode cX9_hasRoomFor 8 = .ok (.aload_n 0, 1) := by decide +kernel
theorem dX9_hasRoomFor_9 : decode cX9_hasRoomFor 9 = .ok (.getfield 23, 3) := by decide +kernel
theorem dX9_hasRoomFor_12 : decode cX9_hasRoomFor 12 = .ok (.bipush 8, 2) := by decide +kernel
theorem dX9_hasRoomFor_14 : decode cX9_hasRoomFor 14 = .ok (.if_icmp .ge 7, 3) := by decide +kernel
theorem dX9_hasRoomFor_17 : decode cX9_hasRoomFor 17 = .ok (.iconst 1, 1) := by decide +kernel
theorem dX9_hasRoomFor_18 : decode cX9_hasRoomFor 18 = .ok (.goto 4, 3) := by decide +kernel
theorem dX9_hasRoomFor_21 : decode cX9_hasRoomFor 21 = .ok (.iconst 0, 1) := by decide +kernel
theorem dX9_hasRoomFor_22 : decode cX9_hasRoomFor 22 = .ok (.ireturn, 1) := by decide +kernel
theorem dX9_write_0 : decode cX9_write 0 = .ok (.aload_n 0, 1) := by decide +kernel
theorem dX9_write_1 : decode cX9_write 1 = .ok (.iload_n 1, 1) := by decide +kernel
theorem dX9_write_2 : decode cX9_write 2 = .ok (.invokevirtual 32, 3) := by decide +kernel
theorem dX9_write_5 : decode cX9_write 5 = .ok (.ifCond .ne 13, 3) := by decide +kernel
theorem dX9_write_8 : decode cX9_write 8 = .ok (.aload_n 0, 1) := by decide +kernel
theorem dX9_write_9 : decode cX9_write 9 = .ok (.dup, 1) := by decide +kernel
theorem dX9_write_10 : decode cX9_write 10 = .ok (.getfield 23, 3) := by decide +kernel
theorem dX9_write_13 : decode cX9_write 13 = .ok (.iconst 1, 1) := by decide +kernel
theorem dX9_write_14 : decode cX9_write 14 = .ok (.iadd, 1) := by decide +kernel
theorem dX9_write_15 : decode cX9_write 15 = .ok (.putfield 23, 3) := by decide +kernel
theorem dX9_write_18 : decode cX9_write 18 = .ok (.aload_n 0, 1) := by decide +kernel
theorem dX9_write_19 : decode cX9_write 19 = .ok (.getfield 9, 3) := by decide +kernel
theorem dX9_write_22 : decode cX9_write 22 = .ok (.iload_n 1, 1) := by decide +kernel
theorem dX9_write_23 : decode cX9_write 23 = .ok (.iload_n 2, 1) := by decide +kernel
theorem dX9_write_24 : decode cX9_write 24 = .ok (.iastore, 1) := by decide +kernel
theorem dX9_write_25 : decode cX9_write 25 = .ok (.return_, 1) := by decide +kernel
theorem dX10_init_0 : decode cX10_init 0 = .ok (.aload_n 0, 1) := by decide +kernel
theorem dX10_init_1 : decode cX10_init 1 = .ok (.invokespecial 3, 3) := by decide +kernel
theorem dX10_init_4 : decode cX10_init 4 = .ok (.aload_n 0, 1) := by decide +kernel
theorem dX10_init_5 : decode cX10_init 5 = .ok (.sipush 384, 3) := by decide +kernel
theorem dX10_init_8 : decode cX10_init 8 = .ok (.newarray .int, 2) := by decide +kernel
theorem dX10_init_10 : decode cX10_init 10 = .ok (.putfield 9, 3) := by decide +kernel
theorem dX10_init_13 : decode cX10_init 13 = .ok (.aload_n 0, 1) := by decide +kernel
theorem dX10_init_14 : decode cX10_init 14 = .ok (.sipush 384, 3) := by decide +kernel
theorem dX10_init_17 : decode cX10_init 17 = .ok (.newarray .int, 2) := by decide +kernel
theorem dX10_init_19 : decode cX10_init 19 = .ok (.putfield 15, 3) := by decide +kernel
theorem dX10_init_22 : decode cX10_init 22 = .ok (.aload_n 0, 1) := by decide +kernel
theorem dX10_init_23 : decode cX10_init 23 = .ok (.bipush 48, 2) := by decide +kernel
theorem dX10_init_25 : decode cX10_init 25 = .ok (.newarray .int, 2) := by decide +kernel
theorem dX10_init_27 : decode cX10_init 27 = .ok (.putfield 18, 3) := by decide +kernel
theorem dX10_init_30 : decode cX10_init 30 = .ok (.iconst 0, 1) := by decide +kernel
theorem dX10_init_31 : decode cX10_init 31 = .ok (.istore_n 1, 1) := by decide +kernel
theorem dX10_init_32 : decode cX10_init 32 = .ok (.iload_n 1, 1) := by decide +kernel
theorem dX10_init_33 : decode cX10_init 33 = .ok (.bipush 48, 2) := by decide +kernel
theorem dX10_init_35 : decode cX10_init 35 = .ok (.if_icmp .ge 26, 3) := by decide +kernel
theorem dX10_init_38 : decode cX10_init 38 = .ok (.aload_n 0, 1) := by decide +kernel
theorem dX10_init_39 : decode cX10_init 39 = .ok (.getfield 15, 3) := by decide +kernel
theorem dX10_init_42 : decode cX10_init 42 = .ok (.iload_n 1, 1) := by decide +kernel
theorem dX10_init_43 : decode cX10_init 43 = .ok (.bipush 8, 2) := by decide +kernel
theorem dX10_init_45 : decode cX10_init 45 = .ok (.imul, 1) := by decide +kernel
theorem dX10_init_46 : decode cX10_init 46 = .ok (.iconst (-1), 1) := by decide +kernel
theorem dX10_init_47 : decode cX10_init 47 = .ok (.iastore, 1) := by decide +kernel
theorem dX10_init_48 : decode cX10_init 48 = .ok (.aload_n 0, 1) := by decide +kernel
theorem dX10_init_49 : decode cX10_init 49 = .ok (.getfield 18, 3) := by decide +kernel
theorem dX10_init_52 : decode cX10_init 52 = .ok (.iload_n 1, 1) := by decide +kernel
theorem dX10_init_53 : decode cX10_init 53 = .ok (.iconst 1, 1) := by decide +kernel
