theorem dX12_scans_36 : decode cX12_scans 36 = .ok (.iconst 1, 1) := by decide +kernel
theorem dX12_scans_37 : decode cX12_scans 37 = .ok (.iload_n 2, 1) := by decide +kernel
theorem dX12_scans_38 : decode cX12_scans 38 = .ok (.invokevirtual 130, 3) := by decide +kernel
theorem dX12_scans_41 : decode cX12_scans 41 = .ok (.aload_n 0, 1) := by decide +kernel
theorem dX12_scans_42 : decode cX12_scans 42 = .ok (.iload_n 1, 1) := by decide +kernel
theorem dX12_scans_43 : decode cX12_scans 43 = .ok (.iconst 1, 1) := by decide +kernel
theorem dX12_scans_44 : decode cX12_scans 44 = .ok (.iload_n 2, 1) := by decide +kernel
theorem dX12_scans_45 : decode cX12_scans 45 = .ok (.iconst 1, 1) := by decide +kernel
theorem dX12_scans_46 : decode cX12_scans 46 = .ok (.iadd, 1) := by decide +kernel
theorem dX12_scans_47 : decode cX12_scans 47 = .ok (.invokevirtual 80, 3) := by decide +kernel
theorem dX12_scans_50 : decode cX12_scans 50 = .ok (.iload_n 2, 1) := by decide +kernel
theorem dX12_scans_51 : decode cX12_scans 51 = .ok (.iconst 1, 1) := by decide +kernel
theorem dX12_scans_52 : decode cX12_scans 52 = .ok (.iadd, 1) := by decide +kernel
theorem dX12_scans_53 : decode cX12_scans 53 = .ok (.bipush 48, 2) := by decide +kernel
theorem dX12_scans_55 : decode cX12_scans 55 = .ok (.if_icmp .ge 4, 3) := by decide +kernel
theorem dX12_scans_58 : decode cX12_scans 58 = .ok (.return_, 1) := by decide +kernel
theorem dX12_scans_59 : decode cX12_scans 59 = .ok (.aload_n 0, 1) := by decide +kernel
theorem dX12_scans_60 : decode cX12_scans 60 = .ok (.iload_n 1, 1) := by decide +kernel
theorem dX12_scans_61 : decode cX12_scans 61 = .ok (.iconst 0, 1) := by decide +kernel
theorem dX12_scans_62 : decode cX12_scans 62 = .ok (.iconst 2, 1) := by decide +kernel
theorem dX12_scans_63 : decode cX12_scans 63 = .ok (.invokevirtual 80, 3) := by decide +kernel
theorem dX12_scans_66 : decode cX12_scans 66 = .ok (.aload_n 0, 1) := by decide +kernel
theorem dX12_scans_67 : decode cX12_scans 67 = .ok (.iload_n 1, 1) := by decide +kernel
theorem dX12_scans_68 : decode cX12_scans 68 = .ok (.iconst 1, 1) := by decide +kernel
theorem dX12_scans_69 : decode cX12_scans 69 = .ok (.iconst (-1), 1) := by decide +kernel
theorem dX12_scans_70 : decode cX12_scans 70 = .ok (.invokevirtual 80, 3) := by decide +kernel
theorem dX12_scans_73 : decode cX12_scans 73 = .ok (.aload_n 0, 1) := by decide +kernel
theorem dX12_scans_74 : decode cX12_scans 74 = .ok (.iload_n 1, 1) := by decide +kernel
theorem dX12_scans_75 : decode cX12_scans 75 = .ok (.iconst 3, 1) := by decide +kernel
theorem dX12_scans_76 : decode cX12_scans 76 = .ok (.iconst (-1), 1) := by decide +kernel
theorem dX12_scans_77 : decode cX12_scans 77 = .ok (.invokevirtual 80, 3) := by decide +kernel
theorem dX12_scans_80 : decode cX12_scans 80 = .ok (.aload_n 0, 1) := by decide +kernel
theorem dX12_scans_81 : decode cX12_scans 81 = .ok (.iload_n 1, 1) := by decide +kernel
theorem dX12_scans_82 : decode cX12_scans 82 = .ok (.iconst 2, 1) := by decide +kernel
theorem dX12_scans_83 : decode cX12_scans 83 = .ok (.iconst 1, 1) := by decide +kernel
theorem dX12_scans_84 : decode cX12_scans 84 = .ok (.invokevirtual 80, 3) := by decide +kernel
theorem dX12_scans_87 : decode cX12_scans 87 = .ok (.aload_n 0, 1) := by decide +kernel
theorem dX12_scans_88 : decode cX12_scans 88 = .ok (.iload_n 1, 1) := by decide +kernel
theorem dX12_scans_89 : decode cX12_scans 89 = .ok (.invokevirtual 352, 3) := by decide +kernel
theorem dX12_scans_92 : decode cX12_scans 92 = .ok (.return_, 1) := by decide +kernel
theorem dX12_doesFirst_0 : decode cX12_doesFirst 0 = .ok (.aload_n 0, 1) := by decide +kernel
theorem dX12_doesFirst_1 : decode cX12_doesFirst 1 = .ok (.iload_n 1, 1) := by decide +kernel
theorem dX12_doesFirst_2 : decode cX12_doesFirst 2 = .ok (.bipush 14, 2) := by decide +kernel
theorem dX12_doesFirst_4 : decode cX12_doesFirst 4 = .ok (.invokevirtual 104, 3) := by decide +kernel
theorem dX12_doesFirst_7 : decode cX12_doesFirst 7 = .ok (.istore_n 2, 1) := by decide +kernel
theorem dX12_doesFirst_8 : decode cX12_doesFirst 8 = .ok (.iload_n 2, 1) := by decide +kernel
theorem dX12_doesFirst_9 : decode cX12_doesFirst 9 = .ok (.ifCond .ne 5, 3) := by decide +kernel
theorem dX12_doesFirst_12 : decode cX12_doesFirst 12 = .ok (.iconst 0, 1) := by decide +kernel
theorem dX12_doesFirst_13 : decode cX12_doesFirst 13 = .ok (.ireturn, 1) := by decide +kernel
theorem dX12_doesFirst_14 : decode cX12_doesFirst 14 = .ok (.sipush 2140, 3) := by decide +kernel
theorem dX12_doesFirst_17 : decode cX12_doesFirst 17 = .ok (.sipush 1600, 3) := by decide +kernel
theorem dX12_doesFirst_20 : decode cX12_doesFirst 20 = .ok (.iload_n 1, 1) := by decide +kernel
theorem dX12_doesFirst_21 : decode cX12_doesFirst 21 = .ok (.imul, 1) := by decide +kernel
theorem dX12_doesFirst_22 : decode cX12_doesFirst 22 = .ok (.iadd, 1) := by decide +kernel
theorem dX12_doesFirst_23 : decode cX12_doesFirst 23 = .ok (.sipush 400, 3) := by decide +kernel
theorem dX12_doesFirst_26 : decode cX12_doesFirst 26 = .ok (.iadd, 1) := by decide +kernel
theorem dX12_doesFirst_27 : decode cX12_doesFirst 27 = .ok (.istore_n 3, 1) := by decide +kernel
theorem dX12_doesFirst_28 : decode cX12_doesFirst 28 = .ok (.aload_n 0, 1) := by decide +kernel
theorem dX12_doesFirst_29 : decode cX12_doesFirst 29 = .ok (.getfield 13, 3) := by decide +kernel
theorem dX12_doesFirst_32 : decode cX12_doesFirst 32 = .ok (.iload_n 3, 1) := by decide +kernel
theorem dX12_doesFirst_33 : decode cX12_doesFirst 33 = .ok (.iconst 2, 1) := by decide +kernel
theorem dX12_doesFirst_34 : decode cX12_doesFirst 34 = .ok (.iadd, 1) := by decide +kernel
theorem dX12_doesFirst_35 : decode cX12_doesFirst 35 = .ok (.aload_n 0, 1) := by decide +kernel
theorem dX12_doesFirst_36 : decode cX12_doesFirst 36 = .ok (.getfield 25, 3) := by decide +kernel
theorem dX12_doesFirst_39 : decode cX12_doesFirst 39 = .ok (.iconst 0, 1) := by decide +kernel
theorem dX12_doesFirst_40 : decode cX12_doesFirst 40 = .ok (.iconst 3, 1) := by decide +kernel
theorem dX12_doesFirst_41 : decode cX12_doesFirst 41 = .ok (.invokestatic 76, 3) := by decide +kernel
theorem dX12_doesFirst_44 : decode cX12_doesFirst 44 = .ok (.aload_n 0, 1) := by decide +kernel
theorem dX12_doesFirst_45 : decode cX12_doesFirst 45 = .ok (.iload_n 1, 1) := by decide +kernel
theorem dX12_doesFirst_46 : decode cX12_doesFirst 46 = .ok (.aload_n 0, 1) := by decide +kernel
theorem dX12_doesFirst_47 : decode cX12_doesFirst 47 = .ok (.getfield 13, 3) := by decide +kernel
theorem dX12_doesFirst_50 : decode cX12_doesFirst 50 = .ok (.iload_n 3, 1) := by decide +kernel
theorem dX12_doesFirst_51 : decode cX12_doesFirst 51 = .ok (.iaload, 1) := by decide +kernel
theorem dX12_doesFirst_52 : decode cX12_doesFirst 52 = .ok (.aload_n 0, 1) := by decide +kernel
theorem dX12_doesFirst_53 : decode cX12_doesFirst 53 = .ok (.getfield 13, 3) := by decide +kernel
theorem dX12_doesFirst_56 : decode cX12_doesFirst 56 = .ok (.iload_n 3, 1) := by decide +kernel
theorem dX12_doesFirst_57 : decode cX12_doesFirst 57 = .ok (.iconst 1, 1) := by decide +kernel
theorem dX12_doesFirst_58 : decode cX12_doesFirst 58 = .ok (.iadd, 1) := by decide +kernel
theorem dX12_doesFirst_59 : decode cX12_doesFirst 59 = .ok (.iaload, 1) := by decide +kernel
theorem dX12_doesFirst_60 : decode cX12_doesFirst 60 = .ok (.invokevirtual 130, 3) := by decide +kernel
theorem dX12_doesFirst_63 : decode cX12_doesFirst 63 = .ok (.aload_n 0, 1) := by decide +kernel
theorem dX12_doesFirst_64 : decode cX12_doesFirst 64 = .ok (.getfield 13, 3) := by decide +kernel
theorem dX12_doesFirst_67 : decode cX12_doesFirst 67 = .ok (.iload_n 3, 1) := by decide +kernel
theorem dX12_doesFirst_68 : decode cX12_doesFirst 68 = .ok (.iconst 5, 1) := by decide +kernel
theorem dX12_doesFirst_69 : decode cX12_doesFirst 69 = .ok (.iadd, 1) := by decide +kernel
theorem dX12_doesFirst_70 : decode cX12_doesFirst 70 = .ok (.aload_n 0, 1) := by decide +kernel
theorem dX12_doesFirst_71 : decode cX12_doesFirst 71 = .ok (.getfield 13, 3) := by decide +kernel
theorem dX12_doesFirst_74 : decode cX12_doesFirst 74 = .ok (.iload_n 3, 1) := by decide +kernel
theorem dX12_doesFirst_75 : decode cX12_doesFirst 75 = .ok (.iconst 5, 1) := by decide +kernel
theorem dX12_doesFirst_76 : decode cX12_doesFirst 76 = .ok (.iload_n 2, 1) := by decide +kernel
theorem dX12_doesFirst_77 : decode cX12_doesFirst 77 = .ok (.iconst 1, 1) := by decide +kernel
theorem dX12_doesFirst_78 : decode cX12_doesFirst 78 = .ok (.isub, 1) := by decide +kernel
theorem dX12_doesFirst_79 : decode cX12_doesFirst 79 = .ok (.imul, 1) := by decide +kernel
theorem dX12_doesFirst_80 : decode cX12_doesFirst 80 = .ok (.invokestatic 76, 3) := by decide +kernel
theorem dX12_doesFirst_83 : decode cX12_doesFirst 83 = .ok (.aload_n 0, 1) := by decide +kernel
theorem dX12_doesFirst_84 : decode cX12_doesFirst 84 = .ok (.iload_n 1, 1) := by decide +kernel
theorem dX12_doesFirst_85 : decode cX12_doesFirst 85 = .ok (.bipush 14, 2) := by decide +kernel
theorem dX12_doesFirst_87 : decode cX12_doesFirst 87 = .ok (.iload_n 2, 1) := by decide +kernel
theorem dX12_doesFirst_88 : decode cX12_doesFirst 88 = .ok (.iconst 1, 1) := by decide +kernel
theorem dX12_doesFirst_89 : decode cX12_doesFirst 89 = .ok (.isub, 1) := by decide +kernel
theorem dX12_doesFirst_90 : decode cX12_doesFirst 90 = .ok (.invokevirtual 80, 3) := by decide +kernel
theorem dX12_doesFirst_93 : decode cX12_doesFirst 93 = .ok (.iconst 1, 1) := by decide +kernel
theorem dX12_doesFirst_94 : decode cX12_doesFirst 94 = .ok (.ireturn, 1) := by decide +kernel
theorem dX12_catches_0 : decode cX12_catches 0 = .ok (.aload_n 0, 1) := by decide +kernel
theorem dX12_catches_1 : decode cX12_catches 1 = .ok (.iload_n 1, 1) := by decide +kernel
theorem dX12_catches_2 : decode cX12_catches 2 = .ok (.invokevirtual 355, 3) := by decide +kernel
theorem dX12_catches_5 : decode cX12_catches 5 = .ok (.ifCond .eq 4, 3) := by decide +kernel
theorem dX12_catches_8 : decode cX12_catches 8 = .ok (.return_, 1) := by decide +kernel
theorem dX12_catches_9 : decode cX12_catches 9 = .ok (.aload_n 0, 1) := by decide +kernel
theorem dX12_catches_10 : decode cX12_catches 10 = .ok (.iload_n 1, 1) := by decide +kernel
theorem dX12_catches_11 : decode cX12_catches 11 = .ok (.bipush 15, 2) := by decide +kernel
theorem dX12_catches_13 : decode cX12_catches 13 = .ok (.invokevirtual 104, 3) := by decide +kernel
theorem dX12_catches_16 : decode cX12_catches 16 = .ok (.aload_n 0, 1) := by decide +kernel
theorem dX12_catches_17 : decode cX12_catches 17 = .ok (.getfield 13, 3) := by decide +kernel
theorem dX12_catches_20 : decode cX12_catches 20 = .ok (.sipush 5341, 3) := by decide +kernel
theorem dX12_catches_23 : decode cX12_catches 23 = .ok (.iaload, 1) := by decide +kernel
theorem dX12_catches_24 : decode cX12_catches 24 = .ok (.if_icmp .gt 18, 3) := by decide +kernel
theorem dX12_catches_27 : decode cX12_catches 27 = .ok (.aload_n 0, 1) := by decide +kernel
theorem dX12_catches_28 : decode cX12_catches 28 = .ok (.iload_n 1, 1) := by decide +kernel
theorem dX12_catches_29 : decode cX12_catches 29 = .ok (.iconst 0, 1) := by decide +kernel
theorem dX12_catches_30 : decode cX12_catches 30 = .ok (.iconst 3, 1) := by decide +kernel
theorem dX12_catches_31 : decode cX12_catches 31 = .ok (.invokevirtual 80, 3) := by decide +kernel
theorem dX12_catches_34 : decode cX12_catches 34 = .ok (.aload_n 0, 1) := by decide +kernel
theorem dX12_catches_35 : decode cX12_catches 35 = .ok (.iload_n 1, 1) := by decide +kernel
theorem dX12_catches_36 : decode cX12_catches 36 = .ok (.invokevirtual 352, 3) := by decide +kernel
theorem dX12_catches_39 : decode cX12_catches 39 = .ok (.goto 48, 3) := by decide +kernel
theorem dX12_catches_42 : decode cX12_catches 42 = .ok (.aload_n 0, 1) := by decide +kernel
theorem dX12_catches_43 : decode cX12_catches 43 = .ok (.iload_n 1, 1) := by decide +kernel
theorem dX12_catches_44 : decode cX12_catches 44 = .ok (.iconst 2, 1) := by decide +kernel
theorem dX12_catches_45 : decode cX12_catches 45 = .ok (.invokevirtual 104, 3) := by decide +kernel
theorem dX12_catches_48 : decode cX12_catches 48 = .ok (.aload_n 0, 1) := by decide +kernel
theorem dX12_catches_49 : decode cX12_catches 49 = .ok (.getfield 13, 3) := by decide +kernel
theorem dX12_catches_52 : decode cX12_catches 52 = .ok (.sipush 5342, 3) := by decide +kernel
theorem dX12_catches_55 : decode cX12_catches 55 = .ok (.iaload, 1) := by decide +kernel
theorem dX12_catches_56 : decode cX12_catches 56 = .ok (.if_icmp .lt 12, 3) := by decide +kernel
theorem dX12_catches_59 : decode cX12_catches 59 = .ok (.aload_n 0, 1) := by decide +kernel
theorem dX12_catches_60 : decode cX12_catches 60 = .ok (.iload_n 1, 1) := by decide +kernel
theorem dX12_catches_61 : decode cX12_catches 61 = .ok (.iconst 2, 1) := by decide +kernel
theorem dX12_catches_62 : decode cX12_catches 62 = .ok (.invokevirtual 68, 3) := by decide +kernel
theorem dX12_catches_65 : decode cX12_catches 65 = .ok (.goto 22, 3) := by decide +kernel
theorem dX12_catches_68 : decode cX12_catches 68 = .ok (.aload_n 0, 1) := by decide +kernel
theorem dX12_catches_69 : decode cX12_catches 69 = .ok (.iload_n 1, 1) := by decide +kernel
theorem dX12_catches_70 : decode cX12_catches 70 = .ok (.iconst 2, 1) := by decide +kernel
theorem dX12_catches_71 : decode cX12_catches 71 = .ok (.aload_n 0, 1) := by decide +kernel
theorem dX12_catches_72 : decode cX12_catches 72 = .ok (.iload_n 1, 1) := by decide +kernel
theorem dX12_catches_73 : decode cX12_catches 73 = .ok (.iconst 2, 1) := by decide +kernel
theorem dX12_catches_74 : decode cX12_catches 74 = .ok (.invokevirtual 104, 3) := by decide +kernel
theorem dX12_catches_77 : decode cX12_catches 77 = .ok (.iconst 1, 1) := by decide +kernel
theorem dX12_catches_78 : decode cX12_catches 78 = .ok (.iadd, 1) := by decide +kernel
theorem dX12_catches_79 : decode cX12_catches 79 = .ok (.invokevirtual 80, 3) := by decide +kernel
theorem dX12_catches_82 : decode cX12_catches 82 = .ok (.aload_n 0, 1) := by decide +kernel
theorem dX12_catches_83 : decode cX12_catches 83 = .ok (.iload_n 1, 1) := by decide +kernel
theorem dX12_catches_84 : decode cX12_catches 84 = .ok (.invokevirtual 352, 3) := by decide +kernel
theorem dX12_catches_87 : decode cX12_catches 87 = .ok (.return_, 1) := by decide +kernel
theorem dX12_areTwoAlike_0 : decode cX12_areTwoAlike 0 = .ok (.iconst 0, 1) := by decide +kernel
theorem dX12_areTwoAlike_1 : decode cX12_areTwoAlike 1 = .ok (.istore_n 2, 1) := by decide +kernel
theorem dX12_areTwoAlike_2 : decode cX12_areTwoAlike 2 = .ok (.iload_n 2, 1) := by decide +kernel
theorem dX12_areTwoAlike_3 : decode cX12_areTwoAlike 3 = .ok (.iconst 1, 1) := by decide +kernel
theorem dX12_areTwoAlike_4 : decode cX12_areTwoAlike 4 = .ok (.iadd, 1) := by decide +kernel
theorem dX12_areTwoAlike_5 : decode cX12_areTwoAlike 5 = .ok (.aload_n 0, 1) := by decide +kernel
theorem dX12_areTwoAlike_6 : decode cX12_areTwoAlike 6 = .ok (.iload_n 1, 1) := by decide +kernel
theorem dX12_areTwoAlike_7 : decode cX12_areTwoAlike 7 = .ok (.bipush 13, 2) := by decide +kernel
theorem dX12_areTwoAlike_9 : decode cX12_areTwoAlike 9 = .ok (.invokevirtual 104, 3) := by decide +kernel
theorem dX12_areTwoAlike_12 : decode cX12_areTwoAlike 12 = .ok (.if_icmp .ge 50, 3) := by decide +kernel
theorem dX12_areTwoAlike_15 : decode cX12_areTwoAlike 15 = .ok (.aload_n 0, 1) := by decide +kernel
theorem dX12_areTwoAlike_16 : decode cX12_areTwoAlike 16 = .ok (.getfield 13, 3) := by decide +kernel
theorem dX12_areTwoAlike_19 : decode cX12_areTwoAlike 19 = .ok (.aload_n 0, 1) := by decide +kernel
theorem dX12_areTwoAlike_20 : decode cX12_areTwoAlike 20 = .ok (.iload_n 1, 1) := by decide +kernel
theorem dX12_areTwoAlike_21 : decode cX12_areTwoAlike 21 = .ok (.iload_n 2, 1) := by decide +kernel
theorem dX12_areTwoAlike_22 : decode cX12_areTwoAlike 22 = .ok (.invokevirtual 118, 3) := by decide +kernel
theorem dX12_areTwoAlike_25 : decode cX12_areTwoAlike 25 = .ok (.iconst 1, 1) := by decide +kernel
theorem dX12_areTwoAlike_26 : decode cX12_areTwoAlike 26 = .ok (.iadd, 1) := by decide +kernel
theorem dX12_areTwoAlike_27 : decode cX12_areTwoAlike 27 = .ok (.aload_n 0, 1) := by decide +kernel
theorem dX12_areTwoAlike_28 : decode cX12_areTwoAlike 28 = .ok (.getfield 25, 3) := by decide +kernel
theorem dX12_areTwoAlike_31 : decode cX12_areTwoAlike 31 = .ok (.iconst 0, 1) := by decide +kernel
theorem dX12_areTwoAlike_32 : decode cX12_areTwoAlike 32 = .ok (.iconst 3, 1) := by decide +kernel
theorem dX12_areTwoAlike_33 : decode cX12_areTwoAlike 33 = .ok (.invokestatic 76, 3) := by decide +kernel
theorem dX12_areTwoAlike_36 : decode cX12_areTwoAlike 36 = .ok (.aload_n 0, 1) := by decide +kernel
theorem dX12_areTwoAlike_37 : decode cX12_areTwoAlike 37 = .ok (.iload_n 1, 1) := by decide +kernel
theorem dX12_areTwoAlike_38 : decode cX12_areTwoAlike 38 = .ok (.aload_n 0, 1) := by decide +kernel
theorem dX12_areTwoAlike_39 : decode cX12_areTwoAlike 39 = .ok (.iload_n 1, 1) := by decide +kernel
theorem dX12_areTwoAlike_40 : decode cX12_areTwoAlike 40 = .ok (.iload_n 2, 1) := by decide +kernel
theorem dX12_areTwoAlike_41 : decode cX12_areTwoAlike 41 = .ok (.iconst 1, 1) := by decide +kernel
theorem dX12_areTwoAlike_42 : decode cX12_areTwoAlike 42 = .ok (.iadd, 1) := by decide +kernel
theorem dX12_areTwoAlike_43 : decode cX12_areTwoAlike 43 = .ok (.invokevirtual 118, 3) := by decide +kernel
theorem dX12_areTwoAlike_46 : decode cX12_areTwoAlike 46 = .ok (.iconst 1, 1) := by decide +kernel
theorem dX12_areTwoAlike_47 : decode cX12_areTwoAlike 47 = .ok (.iadd, 1) := by decide +kernel
theorem dX12_areTwoAlike_48 : decode cX12_areTwoAlike 48 = .ok (.invokevirtual 121, 3) := by decide +kernel
theorem dX12_areTwoAlike_51 : decode cX12_areTwoAlike 51 = .ok (.ifCond .ne 5, 3) := by decide +kernel
theorem dX12_areTwoAlike_54 : decode cX12_areTwoAlike 54 = .ok (.iconst 1, 1) := by decide +kernel
theorem dX12_areTwoAlike_55 : decode cX12_areTwoAlike 55 = .ok (.ireturn, 1) := by decide +kernel
theorem dX12_areTwoAlike_56 : decode cX12_areTwoAlike 56 = .ok (.iinc 2 1, 3) := by decide +kernel
theorem dX12_areTwoAlike_59 : decode cX12_areTwoAlike 59 = .ok (.goto (-57), 3) := by decide +kernel
theorem dX12_areTwoAlike_62 : decode cX12_areTwoAlike 62 = .ok (.iconst 0, 1) := by decide +kernel
theorem dX12_areTwoAlike_63 : decode cX12_areTwoAlike 63 = .ok (.ireturn, 1) := by decide +kernel
theorem dX12_unit_0 : decode cX12_unit 0 = .ok (.aload_n 0, 1) := by decide +kernel
theorem dX12_unit_1 : decode cX12_unit 1 = .ok (.iload_n 1, 1) := by decide +kernel
theorem dX12_unit_2 : decode cX12_unit 2 = .ok (.iconst 0, 1) := by decide +kernel
theorem dX12_unit_3 : decode cX12_unit 3 = .ok (.invokevirtual 104, 3) := by decide +kernel
theorem dX12_unit_6 : decode cX12_unit 6 = .ok (.tableswitch 82 1 3 #[26, 34, 42], 26) := by decide +kernel
theorem dX12_unit_32 : decode cX12_unit 32 = .ok (.aload_n 0, 1) := by decide +kernel
theorem dX12_unit_33 : decode cX12_unit 33 = .ok (.iload_n 1, 1) := by decide +kernel
theorem dX12_unit_34 : decode cX12_unit 34 = .ok (.invokevirtual 358, 3) := by decide +kernel
theorem dX12_unit_37 : decode cX12_unit 37 = .ok (.goto 51, 3) := by decide +kernel
theorem dX12_unit_40 : decode cX12_unit 40 = .ok (.aload_n 0, 1) := by decide +kernel
theorem dX12_unit_41 : decode cX12_unit 41 = .ok (.iload_n 1, 1) := by decide +kernel
theorem dX12_unit_42 : decode cX12_unit 42 = .ok (.invokevirtual 361, 3) := by decide +kernel
theorem dX12_unit_45 : decode cX12_unit 45 = .ok (.goto 43, 3) := by decide +kernel
theorem dX12_unit_48 : decode cX12_unit 48 = .ok (.aload_n 0, 1) := by decide +kernel
theorem dX12_unit_49 : decode cX12_unit 49 = .ok (.iload_n 1, 1) := by decide +kernel
theorem dX12_unit_50 : decode cX12_unit 50 = .ok (.invokevirtual 355, 3) := by decide +kernel
theorem dX12_unit_53 : decode cX12_unit 53 = .ok (.ifCond .ne 35, 3) := by decide +kernel
theorem dX12_unit_56 : decode cX12_unit 56 = .ok (.aload_n 0, 1) := by decide +kernel
theorem dX12_unit_57 : decode cX12_unit 57 = .ok (.iload_n 1, 1) := by decide +kernel
theorem dX12_unit_58 : decode cX12_unit 58 = .ok (.iconst 0, 1) := by decide +kernel
theorem dX12_unit_59 : decode cX12_unit 59 = .ok (.aload_n 0, 1) := by decide +kernel
theorem dX12_unit_60 : decode cX12_unit 60 = .ok (.iload_n 1, 1) := by decide +kernel
theorem dX12_unit_61 : decode cX12_unit 61 = .ok (.iconst 4, 1) := by decide +kernel
theorem dX12_unit_62 : decode cX12_unit 62 = .ok (.invokevirtual 104, 3) := by decide +kernel
theorem dX12_unit_65 : decode cX12_unit 65 = .ok (.iconst 1, 1) := by decide +kernel
theorem dX12_unit_66 : decode cX12_unit 66 = .ok (.if_icmp .ne 15, 3) := by decide +kernel
theorem dX12_unit_69 : decode cX12_unit 69 = .ok (.aload_n 0, 1) := by decide +kernel
theorem dX12_unit_70 : decode cX12_unit 70 = .ok (.iload_n 1, 1) := by decide +kernel
theorem dX12_unit_71 : decode cX12_unit 71 = .ok (.invokevirtual 364, 3) := by decide +kernel
theorem dX12_unit_74 : decode cX12_unit 74 = .ok (.ifCond .eq 7, 3) := by decide +kernel
theorem dX12_unit_77 : decode cX12_unit 77 = .ok (.iconst 5, 1) := by decide +kernel
theorem dX12_unit_78 : decode cX12_unit 78 = .ok (.goto 4, 3) := by decide +kernel
theorem dX12_unit_81 : decode cX12_unit 81 = .ok (.iconst 4, 1) := by decide +kernel
theorem dX12_unit_82 : decode cX12_unit 82 = .ok (.invokevirtual 80, 3) := by decide +kernel
theorem dX12_unit_85 : decode cX12_unit 85 = .ok (.goto 3, 3) := by decide +kernel
theorem dX12_unit_88 : decode cX12_unit 88 = .ok (.return_, 1) := by decide +kernel
theorem dX12_isBuilt_0 : decode cX12_isBuilt 0 = .ok (.aload_n 0, 1) := by decide +kernel
theorem dX12_isBuilt_1 : decode cX12_isBuilt 1 = .ok (.iload_n 1, 1) := by decide +kernel
theorem dX12_isBuilt_2 : decode cX12_isBuilt 2 = .ok (.iconst 0, 1) := by decide +kernel
theorem dX12_isBuilt_3 : decode cX12_isBuilt 3 = .ok (.invokevirtual 104, 3) := by decide +kernel
theorem dX12_isBuilt_6 : decode cX12_isBuilt 6 = .ok (.i2l, 1) := by decide +kernel
theorem dX12_isBuilt_7 : decode cX12_isBuilt 7 = .ok (.lconst 1, 1) := by decide +kernel
theorem dX12_isBuilt_8 : decode cX12_isBuilt 8 = .ok (.ldc2_w 84, 3) := by decide +kernel
theorem dX12_isBuilt_11 : decode cX12_isBuilt 11 = .ok (.invokestatic 86, 3) := by decide +kernel
theorem dX12_isBuilt_14 : decode cX12_isBuilt 14 = .ok (.ireturn, 1) := by decide +kernel
theorem dX12_work_0 : decode cX12_work 0 = .ok (.aload_n 0, 1) := by decide +kernel
theorem dX12_work_1 : decode cX12_work 1 = .ok (.iconst 0, 1) := by decide +kernel
theorem dX12_work_2 : decode cX12_work 2 = .ok (.putfield 1, 3) := by decide +kernel
theorem dX12_work_5 : decode cX12_work 5 = .ok (.iload_n 1, 1) := by decide +kernel
theorem dX12_work_6 : decode cX12_work 6 = .ok (.invokestatic 346, 3) := by decide +kernel
theorem dX12_work_9 : decode cX12_work 9 = .ok (.ifCond .ne 6, 3) := by decide +kernel
theorem dX12_work_12 : decode cX12_work 12 = .ok (.bipush (-2), 2) := by decide +kernel
theorem dX12_work_14 : decode cX12_work 14 = .ok (.ireturn, 1) := by decide +kernel
theorem dX12_work_15 : decode cX12_work 15 = .ok (.iload_n 2, 1) := by decide +kernel
theorem dX12_work_16 : decode cX12_work 16 = .ok (.i2l, 1) := by decide +kernel
theorem dX12_work_17 : decode cX12_work 17 = .ok (.lconst 1, 1) := by decide +kernel
theorem dX12_work_18 : decode cX12_work 18 = .ok (.ldc2_w 367, 3) := by decide +kernel
theorem dX12_work_21 : decode cX12_work 21 = .ok (.invokestatic 86, 3) := by decide +kernel
theorem dX12_work_24 : decode cX12_work 24 = .ok (.ifCond .ne 6, 3) := by decide +kernel
theorem dX12_work_27 : decode cX12_work 27 = .ok (.bipush (-3), 2) := by decide +kernel
theorem dX12_work_29 : decode cX12_work 29 = .ok (.ireturn, 1) := by decide +kernel
theorem dX12_work_30 : decode cX12_work 30 = .ok (.aload_n 0, 1) := by decide +kernel
theorem dX12_work_31 : decode cX12_work 31 = .ok (.iload_n 1, 1) := by decide +kernel
theorem dX12_work_32 : decode cX12_work 32 = .ok (.invokevirtual 369, 3) := by decide +kernel
theorem dX12_work_35 : decode cX12_work 35 = .ok (.ifCond .ne 6, 3) := by decide +kernel
theorem dX12_work_38 : decode cX12_work 38 = .ok (.bipush (-5), 2) := by decide +kernel
theorem dX12_work_40 : decode cX12_work 40 = .ok (.ireturn, 1) := by decide +kernel
theorem dX12_work_41 : decode cX12_work 41 = .ok (.aload_n 0, 1) := by decide +kernel
theorem dX12_work_42 : decode cX12_work 42 = .ok (.invokevirtual 152, 3) := by decide +kernel
theorem dX12_work_45 : decode cX12_work 45 = .ok (.iconst 0, 1) := by decide +kernel
theorem dX12_work_46 : decode cX12_work 46 = .ok (.istore_n 3, 1) := by decide +kernel
theorem dX12_work_47 : decode cX12_work 47 = .ok (.iload_n 3, 1) := by decide +kernel
theorem dX12_work_48 : decode cX12_work 48 = .ok (.iload_n 2, 1) := by decide +kernel
theorem dX12_work_49 : decode cX12_work 49 = .ok (.if_icmp .ge 22, 3) := by decide +kernel
theorem dX12_work_52 : decode cX12_work 52 = .ok (.aload_n 0, 1) := by decide +kernel
theorem dX12_work_53 : decode cX12_work 53 = .ok (.iload_n 1, 1) := by decide +kernel
theorem dX12_work_54 : decode cX12_work 54 = .ok (.invokevirtual 369, 3) := by decide +kernel
theorem dX12_work_57 : decode cX12_work 57 = .ok (.ifCond .eq 14, 3) := by decide +kernel
theorem dX12_work_60 : decode cX12_work 60 = .ok (.aload_n 0, 1) := by decide +kernel
theorem dX12_work_61 : decode cX12_work 61 = .ok (.iload_n 1, 1) := by decide +kernel
theorem dX12_work_62 : decode cX12_work 62 = .ok (.invokevirtual 372, 3) := by decide +kernel
theorem dX12_work_65 : decode cX12_work 65 = .ok (.iinc 3 1, 3) := by decide +kernel
theorem dX12_work_68 : decode cX12_work 68 = .ok (.goto (-21), 3) := by decide +kernel
theorem dX12_work_71 : decode cX12_work 71 = .ok (.aload_n 0, 1) := by decide +kernel
theorem dX12_work_72 : decode cX12_work 72 = .ok (.iload_n 1, 1) := by decide +kernel
theorem dX12_work_73 : decode cX12_work 73 = .ok (.iconst 0, 1) := by decide +kernel
theorem dX12_work_74 : decode cX12_work 74 = .ok (.invokevirtual 104, 3) := by decide +kernel
theorem dX12_work_77 : decode cX12_work 77 = .ok (.ireturn, 1) := by decide +kernel
theorem dX12_takeUp_0 : decode cX12_takeUp 0 = .ok (.aload_n 0, 1) := by decide +kernel
theorem dX12_takeUp_1 : decode cX12_takeUp 1 = .ok (.iconst 0, 1) := by decide +kernel
theorem dX12_takeUp_2 : decode cX12_takeUp 2 = .ok (.putfield 1, 3) := by decide +kernel
theorem dX12_takeUp_5 : decode cX12_takeUp 5 = .ok (.iload_n 1, 1) := by decide +kernel
theorem dX12_takeUp_6 : decode cX12_takeUp 6 = .ok (.invokestatic 346, 3) := by decide +kernel
theorem dX12_takeUp_9 : decode cX12_takeUp 9 = .ok (.ifCond .ne 6, 3) := by decide +kernel
theorem dX12_takeUp_12 : decode cX12_takeUp 12 = .ok (.bipush (-2), 2) := by decide +kernel
theorem dX12_takeUp_14 : decode cX12_takeUp 14 = .ok (.ireturn, 1) := by decide +kernel
theorem dX12_takeUp_15 : decode cX12_takeUp 15 = .ok (.aload_n 0, 1) := by decide +kernel
theorem dX12_takeUp_16 : decode cX12_takeUp 16 = .ok (.iload_n 1, 1) := by decide +kernel
theorem dX12_takeUp_17 : decode cX12_takeUp 17 = .ok (.iconst 0, 1) := by decide +kernel
theorem dX12_takeUp_18 : decode cX12_takeUp 18 = .ok (.invokevirtual 104, 3) := by decide +kernel
theorem dX12_takeUp_21 : decode cX12_takeUp 21 = .ok (.iconst 5, 1) := by decide +kernel
theorem dX12_takeUp_22 : decode cX12_takeUp 22 = .ok (.if_icmp .eq 6, 3) := by decide +kernel
theorem dX12_takeUp_25 : decode cX12_takeUp 25 = .ok (.bipush (-5), 2) := by decide +kernel
theorem dX12_takeUp_27 : decode cX12_takeUp 27 = .ok (.ireturn, 1) := by decide +kernel
theorem dX12_takeUp_28 : decode cX12_takeUp 28 = .ok (.aload_n 0, 1) := by decide +kernel
theorem dX12_takeUp_29 : decode cX12_takeUp 29 = .ok (.invokevirtual 152, 3) := by decide +kernel
theorem dX12_takeUp_32 : decode cX12_takeUp 32 = .ok (.aload_n 0, 1) := by decide +kernel
theorem dX12_takeUp_33 : decode cX12_takeUp 33 = .ok (.iload_n 1, 1) := by decide +kernel
theorem dX12_takeUp_34 : decode cX12_takeUp 34 = .ok (.iconst 0, 1) := by decide +kernel
theorem dX12_takeUp_35 : decode cX12_takeUp 35 = .ok (.iconst 2, 1) := by decide +kernel
theorem dX12_takeUp_36 : decode cX12_takeUp 36 = .ok (.invokevirtual 80, 3) := by decide +kernel
theorem dX12_takeUp_39 : decode cX12_takeUp 39 = .ok (.aload_n 0, 1) := by decide +kernel
theorem dX12_takeUp_40 : decode cX12_takeUp 40 = .ok (.iload_n 1, 1) := by decide +kernel
theorem dX12_takeUp_41 : decode cX12_takeUp 41 = .ok (.iconst 2, 1) := by decide +kernel
theorem dX12_takeUp_42 : decode cX12_takeUp 42 = .ok (.aload_n 0, 1) := by decide +kernel
theorem dX12_takeUp_43 : decode cX12_takeUp 43 = .ok (.iload_n 1, 1) := by decide +kernel
theorem dX12_takeUp_44 : decode cX12_takeUp 44 = .ok (.iconst 2, 1) := by decide +kernel
theorem dX12_takeUp_45 : decode cX12_takeUp 45 = .ok (.invokevirtual 104, 3) := by decide +kernel
theorem dX12_takeUp_48 : decode cX12_takeUp 48 = .ok (.iconst 1, 1) := by decide +kernel
theorem dX12_takeUp_49 : decode cX12_takeUp 49 = .ok (.iadd, 1) := by decide +kernel
theorem dX12_takeUp_50 : decode cX12_takeUp 50 = .ok (.invokevirtual 80, 3) := by decide +kernel
theorem dX12_takeUp_53 : decode cX12_takeUp 53 = .ok (.aload_n 0, 1) := by decide +kernel
theorem dX12_takeUp_54 : decode cX12_takeUp 54 = .ok (.iload_n 1, 1) := by decide +kernel
theorem dX12_takeUp_55 : decode cX12_takeUp 55 = .ok (.invokevirtual 352, 3) := by decide +kernel
theorem dX12_takeUp_58 : decode cX12_takeUp 58 = .ok (.aload_n 0, 1) := by decide +kernel
theorem dX12_takeUp_59 : decode cX12_takeUp 59 = .ok (.iload_n 1, 1) := by decide +kernel
theorem dX12_takeUp_60 : decode cX12_takeUp 60 = .ok (.iconst 2, 1) := by decide +kernel
theorem dX12_takeUp_61 : decode cX12_takeUp 61 = .ok (.invokevirtual 104, 3) := by decide +kernel
theorem dX12_takeUp_64 : decode cX12_takeUp 64 = .ok (.ireturn, 1) := by decide +kernel
theorem dX12_giveUp_0 : decode cX12_giveUp 0 = .ok (.aload_n 0, 1) := by decide +kernel
theorem dX12_giveUp_1 : decode cX12_giveUp 1 = .ok (.iconst 0, 1) := by decide +kernel
theorem dX12_giveUp_2 : decode cX12_giveUp 2 = .ok (.putfield 1, 3) := by decide +kernel
theorem dX12_giveUp_5 : decode cX12_giveUp 5 = .ok (.iload_n 1, 1) := by decide +kernel
theorem dX12_giveUp_6 : decode cX12_giveUp 6 = .ok (.invokestatic 346, 3) := by decide +kernel
theorem dX12_giveUp_9 : decode cX12_giveUp 9 = .ok (.ifCond .ne 6, 3) := by decide +kernel
theorem dX12_giveUp_12 : decode cX12_giveUp 12 = .ok (.bipush (-2), 2) := by decide +kernel
theorem dX12_giveUp_14 : decode cX12_giveUp 14 = .ok (.ireturn, 1) := by decide +kernel
theorem dX12_giveUp_15 : decode cX12_giveUp 15 = .ok (.aload_n 0, 1) := by decide +kernel
theorem dX12_giveUp_16 : decode cX12_giveUp 16 = .ok (.iload_n 1, 1) := by decide +kernel
theorem dX12_giveUp_17 : decode cX12_giveUp 17 = .ok (.iconst 0, 1) := by decide +kernel
theorem dX12_giveUp_18 : decode cX12_giveUp 18 = .ok (.invokevirtual 104, 3) := by decide +kernel
theorem dX12_giveUp_21 : decode cX12_giveUp 21 = .ok (.istore_n 2, 1) := by decide +kernel
theorem dX12_giveUp_22 : decode cX12_giveUp 22 = .ok (.iload_n 2, 1) := by decide +kernel
theorem dX12_giveUp_23 : decode cX12_giveUp 23 = .ok (.ifCond .ne 6, 3) := by decide +kernel
theorem dX12_giveUp_26 : decode cX12_giveUp 26 = .ok (.bipush (-5), 2) := by decide +kernel
theorem dX12_giveUp_28 : decode cX12_giveUp 28 = .ok (.ireturn, 1) := by decide +kernel
theorem dX12_giveUp_29 : decode cX12_giveUp 29 = .ok (.aload_n 0, 1) := by decide +kernel
theorem dX12_giveUp_30 : decode cX12_giveUp 30 = .ok (.invokevirtual 152, 3) := by decide +kernel
theorem dX12_giveUp_33 : decode cX12_giveUp 33 = .ok (.aload_n 0, 1) := by decide +kernel
theorem dX12_giveUp_34 : decode cX12_giveUp 34 = .ok (.iload_n 1, 1) := by decide +kernel
theorem dX12_giveUp_35 : decode cX12_giveUp 35 = .ok (.iconst 1, 1) := by decide +kernel
theorem dX12_giveUp_36 : decode cX12_giveUp 36 = .ok (.invokevirtual 68, 3) := by decide +kernel
theorem dX12_giveUp_39 : decode cX12_giveUp 39 = .ok (.iload_n 2, 1) := by decide +kernel
theorem dX12_giveUp_40 : decode cX12_giveUp 40 = .ok (.ireturn, 1) := by decide +kernel
theorem dX12_terms_0 : decode cX12_terms 0 = .ok (.aload_n 0, 1) := by decide +kernel
theorem dX12_terms_1 : decode cX12_terms 1 = .ok (.iconst 0, 1) := by decide +kernel
theorem dX12_terms_2 : decode cX12_terms 2 = .ok (.putfield 1, 3) := by decide +kernel
theorem dX12_terms_5 : decode cX12_terms 5 = .ok (.iload_n 1, 1) := by decide +kernel
theorem dX12_terms_6 : decode cX12_terms 6 = .ok (.i2l, 1) := by decide +kernel
theorem dX12_terms_7 : decode cX12_terms 7 = .ok (.lconst 0, 1) := by decide +kernel
theorem dX12_terms_8 : decode cX12_terms 8 = .ok (.lconst 1, 1) := by decide +kernel
theorem dX12_terms_9 : decode cX12_terms 9 = .ok (.invokestatic 86, 3) := by decide +kernel
theorem dX12_terms_12 : decode cX12_terms 12 = .ok (.ifCond .ne 6, 3) := by decide +kernel
theorem dX12_terms_15 : decode cX12_terms 15 = .ok (.bipush (-2), 2) := by decide +kernel
theorem dX12_terms_17 : decode cX12_terms 17 = .ok (.ireturn, 1) := by decide +kernel
theorem dX12_terms_18 : decode cX12_terms 18 = .ok (.iload_n 2, 1) := by decide +kernel
theorem dX12_terms_19 : decode cX12_terms 19 = .ok (.i2l, 1) := by decide +kernel
theorem dX12_terms_20 : decode cX12_terms 20 = .ok (.iload_n 1, 1) := by decide +kernel
theorem dX12_terms_21 : decode cX12_terms 21 = .ok (.ifCond .ne 7, 3) := by decide +kernel
theorem dX12_terms_24 : decode cX12_terms 24 = .ok (.lconst 0, 1) := by decide +kernel
theorem dX12_terms_25 : decode cX12_terms 25 = .ok (.goto 4, 3) := by decide +kernel
theorem dX12_terms_28 : decode cX12_terms 28 = .ok (.lconst 1, 1) := by decide +kernel
theorem dX12_terms_29 : decode cX12_terms 29 = .ok (.iload_n 1, 1) := by decide +kernel
theorem dX12_terms_30 : decode cX12_terms 30 = .ok (.ifCond .ne 9, 3) := by decide +kernel
theorem dX12_terms_33 : decode cX12_terms 33 = .ok (.ldc2_w 375, 3) := by decide +kernel
theorem dX12_terms_36 : decode cX12_terms 36 = .ok (.goto 6, 3) := by decide +kernel
theorem dX12_terms_39 : decode cX12_terms 39 = .ok (.ldc2_w 377, 3) := by decide +kernel
theorem dX12_terms_42 : decode cX12_terms 42 = .ok (.invokestatic 86, 3) := by decide +kernel
theorem dX12_terms_45 : decode cX12_terms 45 = .ok (.ifCond .ne 6, 3) := by decide +kernel
theorem dX12_terms_48 : decode cX12_terms 48 = .ok (.bipush (-3), 2) := by decide +kernel
theorem dX12_terms_50 : decode cX12_terms 50 = .ok (.ireturn, 1) := by decide +kernel
theorem dX12_terms_51 : decode cX12_terms 51 = .ok (.aload_n 0, 1) := by decide +kernel
theorem dX12_terms_52 : decode cX12_terms 52 = .ok (.invokevirtual 152, 3) := by decide +kernel
theorem dX12_terms_55 : decode cX12_terms 55 = .ok (.aload_n 0, 1) := by decide +kernel
theorem dX12_terms_56 : decode cX12_terms 56 = .ok (.getfield 13, 3) := by decide +kernel
theorem dX12_terms_59 : decode cX12_terms 59 = .ok (.sipush 5341, 3) := by decide +kernel
theorem dX12_terms_62 : decode cX12_terms 62 = .ok (.iload_n 1, 1) := by decide +kernel
theorem dX12_terms_63 : decode cX12_terms 63 = .ok (.iadd, 1) := by decide +kernel
theorem dX12_terms_64 : decode cX12_terms 64 = .ok (.iaload, 1) := by decide +kernel
theorem dX12_terms_65 : decode cX12_terms 65 = .ok (.istore_n 3, 1) := by decide +kernel
theorem dX12_terms_66 : decode cX12_terms 66 = .ok (.aload_n 0, 1) := by decide +kernel
theorem dX12_terms_67 : decode cX12_terms 67 = .ok (.getfield 13, 3) := by decide +kernel
theorem dX12_terms_70 : decode cX12_terms 70 = .ok (.sipush 5341, 3) := by decide +kernel
theorem dX12_terms_73 : decode cX12_terms 73 = .ok (.iload_n 1, 1) := by decide +kernel
theorem dX12_terms_74 : decode cX12_terms 74 = .ok (.iadd, 1) := by decide +kernel
theorem dX12_terms_75 : decode cX12_terms 75 = .ok (.iload_n 2, 1) := by decide +kernel
theorem dX12_terms_76 : decode cX12_terms 76 = .ok (.iastore, 1) := by decide +kernel
theorem dX12_terms_77 : decode cX12_terms 77 = .ok (.iload_n 3, 1) := by decide +kernel
theorem dX12_terms_78 : decode cX12_terms 78 = .ok (.ireturn, 1) := by decide +kernel
theorem dX12_index_0 : decode cX12_index 0 = .ok (.aload_n 0, 1) := by decide +kernel
theorem dX12_index_1 : decode cX12_index 1 = .ok (.iconst 0, 1) := by decide +kernel
theorem dX12_index_2 : decode cX12_index 2 = .ok (.putfield 1, 3) := by decide +kernel
theorem dX12_index_5 : decode cX12_index 5 = .ok (.iload_n 1, 1) := by decide +kernel
theorem dX12_index_6 : decode cX12_index 6 = .ok (.invokestatic 346, 3) := by decide +kernel
theorem dX12_index_9 : decode cX12_index 9 = .ok (.ifCond .ne 6, 3) := by decide +kernel
theorem dX12_index_12 : decode cX12_index 12 = .ok (.bipush (-2), 2) := by decide +kernel
theorem dX12_index_14 : decode cX12_index 14 = .ok (.ireturn, 1) := by decide +kernel
theorem dX12_index_15 : decode cX12_index 15 = .ok (.iload_n 2, 1) := by decide +kernel
theorem dX12_index_16 : decode cX12_index 16 = .ok (.tableswitch 191 0 15 #[80, 87, 95, 102, 110, 118, 125, 132, 139, 146, 146, 146, 159, 167, 175, 183], 80) := by decide +kernel
theorem dX12_index_96 : decode cX12_index 96 = .ok (.aload_n 0, 1) := by decide +kernel
theorem dX12_index_97 : decode cX12_index 97 = .ok (.iload_n 1, 1) := by decide +kernel
theorem dX12_index_98 : decode cX12_index 98 = .ok (.iconst 0, 1) := by decide +kernel
theorem dX12_index_99 : decode cX12_index 99 = .ok (.invokevirtual 104, 3) := by decide +kernel
theorem dX12_index_102 : decode cX12_index 102 = .ok (.ireturn, 1) := by decide +kernel
theorem dX12_index_103 : decode cX12_index 103 = .ok (.aload_n 0, 1) := by decide +kernel
theorem dX12_index_104 : decode cX12_index 104 = .ok (.iload_n 1, 1) := by decide +kernel
theorem dX12_index_105 : decode cX12_index 105 = .ok (.bipush 13, 2) := by decide +kernel
theorem dX12_index_107 : decode cX12_index 107 = .ok (.invokevirtual 104, 3) := by decide +kernel
theorem dX12_index_110 : decode cX12_index 110 = .ok (.ireturn, 1) := by decide +kernel
theorem dX12_index_111 : decode cX12_index 111 = .ok (.aload_n 0, 1) := by decide +kernel
theorem dX12_index_112 : decode cX12_index 112 = .ok (.iload_n 1, 1) := by decide +kernel
theorem dX12_index_113 : decode cX12_index 113 = .ok (.iconst 1, 1) := by decide +kernel
theorem dX12_index_114 : decode cX12_index 114 = .ok (.invokevirtual 104, 3) := by decide +kernel
theorem dX12_index_117 : decode cX12_index 117 = .ok (.ireturn, 1) := by decide +kernel
theorem dX12_index_118 : decode cX12_index 118 = .ok (.aload_n 0, 1) := by decide +kernel
theorem dX12_index_119 : decode cX12_index 119 = .ok (.iload_n 1, 1) := by decide +kernel
theorem dX12_index_120 : decode cX12_index 120 = .ok (.bipush 14, 2) := by decide +kernel
theorem dX12_index_122 : decode cX12_index 122 = .ok (.invokevirtual 104, 3) := by decide +kernel
theorem dX12_index_125 : decode cX12_index 125 = .ok (.ireturn, 1) := by decide +kernel
theorem dX12_index_126 : decode cX12_index 126 = .ok (.aload_n 0, 1) := by decide +kernel
theorem dX12_index_127 : decode cX12_index 127 = .ok (.iload_n 1, 1) := by decide +kernel
theorem dX12_index_128 : decode cX12_index 128 = .ok (.bipush 15, 2) := by decide +kernel
theorem dX12_index_130 : decode cX12_index 130 = .ok (.invokevirtual 104, 3) := by decide +kernel
theorem dX12_index_133 : decode cX12_index 133 = .ok (.ireturn, 1) := by decide +kernel
theorem dX12_index_134 : decode cX12_index 134 = .ok (.aload_n 0, 1) := by decide +kernel
theorem dX12_index_135 : decode cX12_index 135 = .ok (.iload_n 1, 1) := by decide +kernel
theorem dX12_index_136 : decode cX12_index 136 = .ok (.iconst 2, 1) := by decide +kernel
theorem dX12_index_137 : decode cX12_index 137 = .ok (.invokevirtual 104, 3) := by decide +kernel
theorem dX12_index_140 : decode cX12_index 140 = .ok (.ireturn, 1) := by decide +kernel
theorem dX12_index_141 : decode cX12_index 141 = .ok (.aload_n 0, 1) := by decide +kernel
theorem dX12_index_142 : decode cX12_index 142 = .ok (.iload_n 1, 1) := by decide +kernel
theorem dX12_index_143 : decode cX12_index 143 = .ok (.iconst 3, 1) := by decide +kernel
theorem dX12_index_144 : decode cX12_index 144 = .ok (.invokevirtual 104, 3) := by decide +kernel
theorem dX12_index_147 : decode cX12_index 147 = .ok (.ireturn, 1) := by decide +kernel
theorem dX12_index_148 : decode cX12_index 148 = .ok (.aload_n 0, 1) := by decide +kernel
theorem dX12_index_149 : decode cX12_index 149 = .ok (.iload_n 1, 1) := by decide +kernel
theorem dX12_index_150 : decode cX12_index 150 = .ok (.iconst 4, 1) := by decide +kernel
theorem dX12_index_151 : decode cX12_index 151 = .ok (.invokevirtual 104, 3) := by decide +kernel
theorem dX12_index_154 : decode cX12_index 154 = .ok (.ireturn, 1) := by decide +kernel
theorem dX12_index_155 : decode cX12_index 155 = .ok (.aload_n 0, 1) := by decide +kernel
theorem dX12_index_156 : decode cX12_index 156 = .ok (.iload_n 1, 1) := by decide +kernel
theorem dX12_index_157 : decode cX12_index 157 = .ok (.iconst 5, 1) := by decide +kernel
theorem dX12_index_158 : decode cX12_index 158 = .ok (.invokevirtual 104, 3) := by decide +kernel
theorem dX12_index_161 : decode cX12_index 161 = .ok (.ireturn, 1) := by decide +kernel
theorem dX12_index_162 : decode cX12_index 162 = .ok (.aload_n 0, 1) := by decide +kernel
theorem dX12_index_163 : decode cX12_index 163 = .ok (.iload_n 1, 1) := by decide +kernel
theorem dX12_index_164 : decode cX12_index 164 = .ok (.bipush 6, 2) := by decide +kernel
theorem dX12_index_166 : decode cX12_index 166 = .ok (.iload_n 2, 1) := by decide +kernel
theorem dX12_index_167 : decode cX12_index 167 = .ok (.iadd, 1) := by decide +kernel
theorem dX12_index_168 : decode cX12_index 168 = .ok (.bipush 9, 2) := by decide +kernel
theorem dX12_index_170 : decode cX12_index 170 = .ok (.isub, 1) := by decide +kernel
theorem dX12_index_171 : decode cX12_index 171 = .ok (.invokevirtual 104, 3) := by decide +kernel
theorem dX12_index_174 : decode cX12_index 174 = .ok (.ireturn, 1) := by decide +kernel
theorem dX12_index_175 : decode cX12_index 175 = .ok (.aload_n 0, 1) := by decide +kernel
theorem dX12_index_176 : decode cX12_index 176 = .ok (.iload_n 1, 1) := by decide +kernel
theorem dX12_index_177 : decode cX12_index 177 = .ok (.bipush 9, 2) := by decide +kernel
theorem dX12_index_179 : decode cX12_index 179 = .ok (.invokevirtual 104, 3) := by decide +kernel
theorem dX12_index_182 : decode cX12_index 182 = .ok (.ireturn, 1) := by decide +kernel
theorem dX12_index_183 : decode cX12_index 183 = .ok (.aload_n 0, 1) := by decide +kernel
theorem dX12_index_184 : decode cX12_index 184 = .ok (.iload_n 1, 1) := by decide +kernel
theorem dX12_index_185 : decode cX12_index 185 = .ok (.bipush 10, 2) := by decide +kernel
theorem dX12_index_187 : decode cX12_index 187 = .ok (.invokevirtual 104, 3) := by decide +kernel
theorem dX12_index_190 : decode cX12_index 190 = .ok (.ireturn, 1) := by decide +kernel
theorem dX12_index_191 : decode cX12_index 191 = .ok (.aload_n 0, 1) := by decide +kernel
theorem dX12_index_192 : decode cX12_index 192 = .ok (.iload_n 1, 1) := by decide +kernel
theorem dX12_index_193 : decode cX12_index 193 = .ok (.bipush 11, 2) := by decide +kernel
theorem dX12_index_195 : decode cX12_index 195 = .ok (.invokevirtual 104, 3) := by decide +kernel
theorem dX12_index_198 : decode cX12_index 198 = .ok (.ireturn, 1) := by decide +kernel
theorem dX12_index_199 : decode cX12_index 199 = .ok (.aload_n 0, 1) := by decide +kernel
theorem dX12_index_200 : decode cX12_index 200 = .ok (.iload_n 1, 1) := by decide +kernel
theorem dX12_index_201 : decode cX12_index 201 = .ok (.bipush 12, 2) := by decide +kernel
theorem dX12_index_203 : decode cX12_index 203 = .ok (.invokevirtual 104, 3) := by decide +kernel
theorem dX12_index_206 : decode cX12_index 206 = .ok (.ireturn, 1) := by decide +kernel
theorem dX12_index_207 : decode cX12_index 207 = .ok (.bipush (-2), 2) := by decide +kernel
theorem dX12_index_209 : decode cX12_index 209 = .ok (.ireturn, 1) := by decide +kernel
theorem dX12_partOf_0 : decode cX12_partOf 0 = .ok (.iload_n 3, 1) := by decide +kernel
theorem dX12_partOf_1 : decode cX12_partOf 1 = .ok (.aload_n 0, 1) := by decide +kernel
theorem dX12_partOf_2 : decode cX12_partOf 2 = .ok (.iload_n 1, 1) := by decide +kernel
theorem dX12_partOf_3 : decode cX12_partOf 3 = .ok (.iconst 5, 1) := by decide +kernel
theorem dX12_partOf_4 : decode cX12_partOf 4 = .ok (.invokevirtual 104, 3) := by decide +kernel
theorem dX12_partOf_7 : decode cX12_partOf 7 = .ok (.if_icmp .ge 14, 3) := by decide +kernel
theorem dX12_partOf_10 : decode cX12_partOf 10 = .ok (.aload_n 0, 1) := by decide +kernel
theorem dX12_partOf_11 : decode cX12_partOf 11 = .ok (.getfield 13, 3) := by decide +kernel
theorem dX12_partOf_14 : decode cX12_partOf 14 = .ok (.iload_n 2, 1) := by decide +kernel
theorem dX12_partOf_15 : decode cX12_partOf 15 = .ok (.iload_n 3, 1) := by decide +kernel
theorem dX12_partOf_16 : decode cX12_partOf 16 = .ok (.iadd, 1) := by decide +kernel
theorem dX12_partOf_17 : decode cX12_partOf 17 = .ok (.iaload, 1) := by decide +kernel
theorem dX12_partOf_18 : decode cX12_partOf 18 = .ok (.goto 4, 3) := by decide +kernel
theorem dX12_partOf_21 : decode cX12_partOf 21 = .ok (.iconst (-1), 1) := by decide +kernel
theorem dX12_partOf_22 : decode cX12_partOf 22 = .ok (.ireturn, 1) := by decide +kernel
theorem dX12_entry_0 : decode cX12_entry 0 = .ok (.aload_n 0, 1) := by decide +kernel
theorem dX12_entry_1 : decode cX12_entry 1 = .ok (.iconst 0, 1) := by decide +kernel
theorem dX12_entry_2 : decode cX12_entry 2 = .ok (.putfield 1, 3) := by decide +kernel
theorem dX12_entry_5 : decode cX12_entry 5 = .ok (.iload_n 1, 1) := by decide +kernel
theorem dX12_entry_6 : decode cX12_entry 6 = .ok (.invokestatic 346, 3) := by decide +kernel
theorem dX12_entry_9 : decode cX12_entry 9 = .ok (.ifCond .eq 15, 3) := by decide +kernel
theorem dX12_entry_12 : decode cX12_entry 12 = .ok (.iload_n 3, 1) := by decide +kernel
theorem dX12_entry_13 : decode cX12_entry 13 = .ok (.i2l, 1) := by decide +kernel
theorem dX12_entry_14 : decode cX12_entry 14 = .ok (.lconst 0, 1) := by decide +kernel
theorem dX12_entry_15 : decode cX12_entry 15 = .ok (.ldc2_w 84, 3) := by decide +kernel
theorem dX12_entry_18 : decode cX12_entry 18 = .ok (.invokestatic 86, 3) := by decide +kernel
theorem dX12_entry_21 : decode cX12_entry 21 = .ok (.ifCond .ne 6, 3) := by decide +kernel
theorem dX12_entry_24 : decode cX12_entry 24 = .ok (.bipush (-2), 2) := by decide +kernel
theorem dX12_entry_26 : decode cX12_entry 26 = .ok (.ireturn, 1) := by decide +kernel
theorem dX12_entry_27 : decode cX12_entry 27 = .ok (.iload_n 2, 1) := by decide +kernel
theorem dX12_entry_28 : decode cX12_entry 28 = .ok (.ifCond .ge 6, 3) := by decide +kernel
theorem dX12_entry_31 : decode cX12_entry 31 = .ok (.bipush (-3), 2) := by decide +kernel
theorem dX12_entry_33 : decode cX12_entry 33 = .ok (.ireturn, 1) := by decide +kernel
theorem dX12_entry_34 : decode cX12_entry 34 = .ok (.iload_n 2, 1) := by decide +kernel
theorem dX12_entry_35 : decode cX12_entry 35 = .ok (.aload_n 0, 1) := by decide +kernel
theorem dX12_entry_36 : decode cX12_entry 36 = .ok (.iload_n 1, 1) := by decide +kernel
theorem dX12_entry_37 : decode cX12_entry 37 = .ok (.bipush 13, 2) := by decide +kernel
theorem dX12_entry_39 : decode cX12_entry 39 = .ok (.invokevirtual 104, 3) := by decide +kernel
theorem dX12_entry_42 : decode cX12_entry 42 = .ok (.if_icmp .lt 5, 3) := by decide +kernel
theorem dX12_entry_45 : decode cX12_entry 45 = .ok (.iconst (-1), 1) := by decide +kernel
theorem dX12_entry_46 : decode cX12_entry 46 = .ok (.ireturn, 1) := by decide +kernel
theorem dX12_entry_47 : decode cX12_entry 47 = .ok (.iload_n 3, 1) := by decide +kernel
theorem dX12_entry_48 : decode cX12_entry 48 = .ok (.ifCond .ne 17, 3) := by decide +kernel
theorem dX12_entry_51 : decode cX12_entry 51 = .ok (.aload_n 0, 1) := by decide +kernel
theorem dX12_entry_52 : decode cX12_entry 52 = .ok (.getfield 13, 3) := by decide +kernel
theorem dX12_entry_55 : decode cX12_entry 55 = .ok (.aload_n 0, 1) := by decide +kernel
theorem dX12_entry_56 : decode cX12_entry 56 = .ok (.iload_n 1, 1) := by decide +kernel
theorem dX12_entry_57 : decode cX12_entry 57 = .ok (.iload_n 2, 1) := by decide +kernel
theorem dX12_entry_58 : decode cX12_entry 58 = .ok (.invokevirtual 118, 3) := by decide +kernel
theorem dX12_entry_61 : decode cX12_entry 61 = .ok (.iaload, 1) := by decide +kernel
theorem dX12_entry_62 : decode cX12_entry 62 = .ok (.goto 19, 3) := by decide +kernel
theorem dX12_entry_65 : decode cX12_entry 65 = .ok (.aload_n 0, 1) := by decide +kernel
theorem dX12_entry_66 : decode cX12_entry 66 = .ok (.iload_n 1, 1) := by decide +kernel
theorem dX12_entry_67 : decode cX12_entry 67 = .ok (.aload_n 0, 1) := by decide +kernel
theorem dX12_entry_68 : decode cX12_entry 68 = .ok (.iload_n 1, 1) := by decide +kernel
theorem dX12_entry_69 : decode cX12_entry 69 = .ok (.iload_n 2, 1) := by decide +kernel
theorem dX12_entry_70 : decode cX12_entry 70 = .ok (.invokevirtual 118, 3) := by decide +kernel
theorem dX12_entry_73 : decode cX12_entry 73 = .ok (.iconst 1, 1) := by decide +kernel
theorem dX12_entry_74 : decode cX12_entry 74 = .ok (.iadd, 1) := by decide +kernel
theorem dX12_entry_75 : decode cX12_entry 75 = .ok (.iload_n 3, 1) := by decide +kernel
theorem dX12_entry_76 : decode cX12_entry 76 = .ok (.iconst 1, 1) := by decide +kernel
theorem dX12_entry_77 : decode cX12_entry 77 = .ok (.isub, 1) := by decide +kernel
theorem dX12_entry_78 : decode cX12_entry 78 = .ok (.invokevirtual 379, 3) := by decide +kernel
theorem dX12_entry_81 : decode cX12_entry 81 = .ok (.ireturn, 1) := by decide +kernel
theorem dX12_logged_0 : decode cX12_logged 0 = .ok (.aload_n 0, 1) := by decide +kernel
theorem dX12_logged_1 : decode cX12_logged 1 = .ok (.iconst 0, 1) := by decide +kernel
theorem dX12_logged_2 : decode cX12_logged 2 = .ok (.putfield 1, 3) := by decide +kernel
theorem dX12_logged_5 : decode cX12_logged 5 = .ok (.iload_n 1, 1) := by decide +kernel
theorem dX12_logged_6 : decode cX12_logged 6 = .ok (.invokestatic 346, 3) := by decide +kernel
theorem dX12_logged_9 : decode cX12_logged 9 = .ok (.ifCond .eq 26, 3) := by decide +kernel
theorem dX12_logged_12 : decode cX12_logged 12 = .ok (.iload_n 2, 1) := by decide +kernel
theorem dX12_logged_13 : decode cX12_logged 13 = .ok (.i2l, 1) := by decide +kernel
theorem dX12_logged_14 : decode cX12_logged 14 = .ok (.lconst 0, 1) := by decide +kernel
theorem dX12_logged_15 : decode cX12_logged 15 = .ok (.lconst 1, 1) := by decide +kernel
theorem dX12_logged_16 : decode cX12_logged 16 = .ok (.invokestatic 86, 3) := by decide +kernel
theorem dX12_logged_19 : decode cX12_logged 19 = .ok (.ifCond .eq 16, 3) := by decide +kernel
theorem dX12_logged_22 : decode cX12_logged 22 = .ok (.iload 4, 2) := by decide +kernel
theorem dX12_logged_24 : decode cX12_logged 24 = .ok (.i2l, 1) := by decide +kernel
theorem dX12_logged_25 : decode cX12_logged 25 = .ok (.lconst 0, 1) := by decide +kernel
theorem dX12_logged_26 : decode cX12_logged 26 = .ok (.ldc2_w 285, 3) := by decide +kernel
theorem dX12_logged_29 : decode cX12_logged 29 = .ok (.invokestatic 86, 3) := by decide +kernel
theorem dX12_logged_32 : decode cX12_logged 32 = .ok (.ifCond .ne 6, 3) := by decide +kernel
theorem dX12_logged_35 : decode cX12_logged 35 = .ok (.bipush (-2), 2) := by decide +kernel
theorem dX12_logged_37 : decode cX12_logged 37 = .ok (.ireturn, 1) := by decide +kernel
theorem dX12_logged_38 : decode cX12_logged 38 = .ok (.iload_n 3, 1) := by decide +kernel
theorem dX12_logged_39 : decode cX12_logged 39 = .ok (.ifCond .ge 6, 3) := by decide +kernel
theorem dX12_logged_42 : decode cX12_logged 42 = .ok (.bipush (-3), 2) := by decide +kernel
theorem dX12_logged_44 : decode cX12_logged 44 = .ok (.ireturn, 1) := by decide +kernel
theorem dX12_logged_45 : decode cX12_logged 45 = .ok (.iload_n 3, 1) := by decide +kernel
theorem dX12_logged_46 : decode cX12_logged 46 = .ok (.aload_n 0, 1) := by decide +kernel
theorem dX12_logged_47 : decode cX12_logged 47 = .ok (.iload_n 1, 1) := by decide +kernel
theorem dX12_logged_48 : decode cX12_logged 48 = .ok (.bipush 14, 2) := by decide +kernel
theorem dX12_logged_50 : decode cX12_logged 50 = .ok (.iload_n 2, 1) := by decide +kernel
theorem dX12_logged_51 : decode cX12_logged 51 = .ok (.iadd, 1) := by decide +kernel
theorem dX12_logged_52 : decode cX12_logged 52 = .ok (.invokevirtual 104, 3) := by decide +kernel
theorem dX12_logged_55 : decode cX12_logged 55 = .ok (.if_icmp .lt 5, 3) := by decide +kernel
theorem dX12_logged_58 : decode cX12_logged 58 = .ok (.iconst (-1), 1) := by decide +kernel
theorem dX12_logged_59 : decode cX12_logged 59 = .ok (.ireturn, 1) := by decide +kernel
theorem dX12_logged_60 : decode cX12_logged 60 = .ok (.sipush 2140, 3) := by decide +kernel
theorem dX12_logged_63 : decode cX12_logged 63 = .ok (.sipush 1600, 3) := by decide +kernel
theorem dX12_logged_66 : decode cX12_logged 66 = .ok (.iload_n 1, 1) := by decide +kernel
theorem dX12_logged_67 : decode cX12_logged 67 = .ok (.imul, 1) := by decide +kernel
theorem dX12_logged_68 : decode cX12_logged 68 = .ok (.iadd, 1) := by decide +kernel
theorem dX12_logged_69 : decode cX12_logged 69 = .ok (.iload_n 2, 1) := by decide +kernel
theorem dX12_logged_70 : decode cX12_logged 70 = .ok (.ifCond .ne 9, 3) := by decide +kernel
theorem dX12_logged_73 : decode cX12_logged 73 = .ok (.sipush 400, 3) := by decide +kernel
theorem dX12_logged_76 : decode cX12_logged 76 = .ok (.goto 6, 3) := by decide +kernel
theorem dX12_logged_79 : decode cX12_logged 79 = .ok (.sipush 1000, 3) := by decide +kernel
theorem dX12_logged_82 : decode cX12_logged 82 = .ok (.iadd, 1) := by decide +kernel
theorem dX12_logged_83 : decode cX12_logged 83 = .ok (.iconst 5, 1) := by decide +kernel
theorem dX12_logged_84 : decode cX12_logged 84 = .ok (.iload_n 3, 1) := by decide +kernel
theorem dX12_logged_85 : decode cX12_logged 85 = .ok (.imul, 1) := by decide +kernel
theorem dX12_logged_86 : decode cX12_logged 86 = .ok (.iadd, 1) := by decide +kernel
theorem dX12_logged_87 : decode cX12_logged 87 = .ok (.istore 5, 2) := by decide +kernel
theorem dX12_logged_89 : decode cX12_logged 89 = .ok (.iload 4, 2) := by decide +kernel
theorem dX12_logged_91 : decode cX12_logged 91 = .ok (.iconst 2, 1) := by decide +kernel
theorem dX12_logged_92 : decode cX12_logged 92 = .ok (.if_icmp .ge 16, 3) := by decide +kernel
theorem dX12_logged_95 : decode cX12_logged 95 = .ok (.aload_n 0, 1) := by decide +kernel
theorem dX12_logged_96 : decode cX12_logged 96 = .ok (.getfield 13, 3) := by decide +kernel
theorem dX12_logged_99 : decode cX12_logged 99 = .ok (.iload 5, 2) := by decide +kernel
theorem dX12_logged_101 : decode cX12_logged 101 = .ok (.iload 4, 2) := by decide +kernel
theorem dX12_logged_103 : decode cX12_logged 103 = .ok (.iadd, 1) := by decide +kernel
theorem dX12_logged_104 : decode cX12_logged 104 = .ok (.iaload, 1) := by decide +kernel
theorem dX12_logged_105 : decode cX12_logged 105 = .ok (.goto 16, 3) := by decide +kernel
theorem dX12_logged_108 : decode cX12_logged 108 = .ok (.aload_n 0, 1) := by decide +kernel
theorem dX12_logged_109 : decode cX12_logged 109 = .ok (.iload_n 1, 1) := by decide +kernel
theorem dX12_logged_110 : decode cX12_logged 110 = .ok (.iload 5, 2) := by decide +kernel
theorem dX12_logged_112 : decode cX12_logged 112 = .ok (.iconst 2, 1) := by decide +kernel
theorem dX12_logged_113 : decode cX12_logged 113 = .ok (.iadd, 1) := by decide +kernel
theorem dX12_logged_114 : decode cX12_logged 114 = .ok (.iload 4, 2) := by decide +kernel
theorem dX12_logged_116 : decode cX12_logged 116 = .ok (.iconst 2, 1) := by decide +kernel
theorem dX12_logged_117 : decode cX12_logged 117 = .ok (.isub, 1) := by decide +kernel
theorem dX12_logged_118 : decode cX12_logged 118 = .ok (.invokevirtual 379, 3) := by decide +kernel
theorem dX12_logged_121 : decode cX12_logged 121 = .ok (.ireturn, 1) := by decide +kernel
theorem dX12_entriesBy_0 : decode cX12_entriesBy 0 = .ok (.iload_n 1, 1) := by decide +kernel
theorem dX12_entriesBy_1 : decode cX12_entriesBy 1 = .ok (.invokestatic 346, 3) := by decide +kernel
theorem dX12_entriesBy_4 : decode cX12_entriesBy 4 = .ok (.ifCond .ne 6, 3) := by decide +kernel
theorem dX12_entriesBy_7 : decode cX12_entriesBy 7 = .ok (.bipush (-2), 2) := by decide +kernel
theorem dX12_entriesBy_9 : decode cX12_entriesBy 9 = .ok (.ireturn, 1) := by decide +kernel
theorem dX12_entriesBy_10 : decode cX12_entriesBy 10 = .ok (.iload_n 2, 1) := by decide +kernel
theorem dX12_entriesBy_11 : decode cX12_entriesBy 11 = .ok (.invokestatic 158, 3) := by decide +kernel
theorem dX12_entriesBy_14 : decode cX12_entriesBy 14 = .ok (.ifCond .eq 18, 3) := by decide +kernel
theorem dX12_entriesBy_17 : decode cX12_entriesBy 17 = .ok (.iload_n 3, 1) := by decide +kernel
theorem dX12_entriesBy_18 : decode cX12_entriesBy 18 = .ok (.invokestatic 158, 3) := by decide +kernel
theorem dX12_entriesBy_21 : decode cX12_entriesBy 21 = .ok (.ifCond .eq 11, 3) := by decide +kernel
theorem dX12_entriesBy_24 : decode cX12_entriesBy 24 = .ok (.iload 4, 2) := by decide +kernel
theorem dX12_entriesBy_26 : decode cX12_entriesBy 26 = .ok (.invokestatic 158, 3) := by decide +kernel
theorem dX12_entriesBy_29 : decode cX12_entriesBy 29 = .ok (.ifCond .ne 6, 3) := by decide +kernel
theorem dX12_entriesBy_32 : decode cX12_entriesBy 32 = .ok (.bipush (-3), 2) := by decide +kernel
theorem dX12_entriesBy_34 : decode cX12_entriesBy 34 = .ok (.ireturn, 1) := by decide +kernel
theorem dX12_entriesBy_35 : decode cX12_entriesBy 35 = .ok (.aload_n 0, 1) := by decide +kernel
theorem dX12_entriesBy_36 : decode cX12_entriesBy 36 = .ok (.iload_n 1, 1) := by decide +kernel
theorem dX12_entriesBy_37 : decode cX12_entriesBy 37 = .ok (.iconst 0, 1) := by decide +kernel
theorem dX12_entriesBy_38 : decode cX12_entriesBy 38 = .ok (.invokevirtual 104, 3) := by decide +kernel
theorem dX12_entriesBy_41 : decode cX12_entriesBy 41 = .ok (.iconst 4, 1) := by decide +kernel
theorem dX12_entriesBy_42 : decode cX12_entriesBy 42 = .ok (.if_icmp .eq 6, 3) := by decide +kernel
theorem dX12_entriesBy_45 : decode cX12_entriesBy 45 = .ok (.bipush (-5), 2) := by decide +kernel
theorem dX12_entriesBy_47 : decode cX12_entriesBy 47 = .ok (.ireturn, 1) := by decide +kernel
theorem dX12_entriesBy_48 : decode cX12_entriesBy 48 = .ok (.aload_n 0, 1) := by decide +kernel
theorem dX12_entriesBy_49 : decode cX12_entriesBy 49 = .ok (.getfield 62, 3) := by decide +kernel
theorem dX12_entriesBy_52 : decode cX12_entriesBy 52 = .ok (.iconst 0, 1) := by decide +kernel
theorem dX12_entriesBy_53 : decode cX12_entriesBy 53 = .ok (.iload_n 2, 1) := by decide +kernel
theorem dX12_entriesBy_54 : decode cX12_entriesBy 54 = .ok (.iastore, 1) := by decide +kernel
theorem dX12_entriesBy_55 : decode cX12_entriesBy 55 = .ok (.aload_n 0, 1) := by decide +kernel
theorem dX12_entriesBy_56 : decode cX12_entriesBy 56 = .ok (.getfield 62, 3) := by decide +kernel
theorem dX12_entriesBy_59 : decode cX12_entriesBy 59 = .ok (.iconst 1, 1) := by decide +kernel
theorem dX12_entriesBy_60 : decode cX12_entriesBy 60 = .ok (.iload_n 3, 1) := by decide +kernel
theorem dX12_entriesBy_61 : decode cX12_entriesBy 61 = .ok (.iastore, 1) := by decide +kernel
theorem dX12_entriesBy_62 : decode cX12_entriesBy 62 = .ok (.aload_n 0, 1) := by decide +kernel
theorem dX12_entriesBy_63 : decode cX12_entriesBy 63 = .ok (.getfield 62, 3) := by decide +kernel
theorem dX12_entriesBy_66 : decode cX12_entriesBy 66 = .ok (.iconst 2, 1) := by decide +kernel
theorem dX12_entriesBy_67 : decode cX12_entriesBy 67 = .ok (.iload 4, 2) := by decide +kernel
theorem dX12_entriesBy_69 : decode cX12_entriesBy 69 = .ok (.iastore, 1) := by decide +kernel
theorem dX12_entriesBy_70 : decode cX12_entriesBy 70 = .ok (.iconst 0, 1) := by decide +kernel
theorem dX12_entriesBy_71 : decode cX12_entriesBy 71 = .ok (.istore 6, 2) := by decide +kernel
theorem dX12_entriesBy_73 : decode cX12_entriesBy 73 = .ok (.iload 6, 2) := by decide +kernel
theorem dX12_entriesBy_75 : decode cX12_entriesBy 75 = .ok (.aload_n 0, 1) := by decide +kernel
theorem dX12_entriesBy_76 : decode cX12_entriesBy 76 = .ok (.iload_n 1, 1) := by decide +kernel
theorem dX12_entriesBy_77 : decode cX12_entriesBy 77 = .ok (.iconst 5, 1) := by decide +kernel
theorem dX12_entriesBy_78 : decode cX12_entriesBy 78 = .ok (.invokevirtual 104, 3) := by decide +kernel
theorem dX12_entriesBy_81 : decode cX12_entriesBy 81 = .ok (.if_icmp .ge 28, 3) := by decide +kernel
theorem dX12_entriesBy_84 : decode cX12_entriesBy 84 = .ok (.aload_n 0, 1) := by decide +kernel
theorem dX12_entriesBy_85 : decode cX12_entriesBy 85 = .ok (.getfield 25, 3) := by decide +kernel
theorem dX12_entriesBy_88 : decode cX12_entriesBy 88 = .ok (.iload 6, 2) := by decide +kernel
theorem dX12_entriesBy_90 : decode cX12_entriesBy 90 = .ok (.aload_n 0, 1) := by decide +kernel
theorem dX12_entriesBy_91 : decode cX12_entriesBy 91 = .ok (.getfield 62, 3) := by decide +kernel
theorem dX12_entriesBy_94 : decode cX12_entriesBy 94 = .ok (.aload_n 0, 1) := by decide +kernel
theorem dX12_entriesBy_95 : decode cX12_entriesBy 95 = .ok (.iload_n 1, 1) := by decide +kernel
theorem dX12_entriesBy_96 : decode cX12_entriesBy 96 = .ok (.iload 6, 2) := by decide +kernel
theorem dX12_entriesBy_98 : decode cX12_entriesBy 98 = .ok (.invokevirtual 111, 3) := by decide +kernel
theorem dX12_entriesBy_101 : decode cX12_entriesBy 101 = .ok (.iaload, 1) := by decide +kernel
theorem dX12_entriesBy_102 : decode cX12_entriesBy 102 = .ok (.iastore, 1) := by decide +kernel
theorem dX12_entriesBy_103 : decode cX12_entriesBy 103 = .ok (.iinc 6 1, 3) := by decide +kernel
theorem dX12_entriesBy_106 : decode cX12_entriesBy 106 = .ok (.goto (-33), 3) := by decide +kernel
theorem dX12_entriesBy_109 : decode cX12_entriesBy 109 = .ok (.iconst 0, 1) := by decide +kernel
theorem dX12_entriesBy_110 : decode cX12_entriesBy 110 = .ok (.istore 6, 2) := by decide +kernel
theorem dX12_entriesBy_112 : decode cX12_entriesBy 112 = .ok (.iconst 0, 1) := by decide +kernel
theorem dX12_entriesBy_113 : decode cX12_entriesBy 113 = .ok (.istore 7, 2) := by decide +kernel
theorem dX12_entriesBy_115 : decode cX12_entriesBy 115 = .ok (.iload 7, 2) := by decide +kernel
theorem dX12_entriesBy_117 : decode cX12_entriesBy 117 = .ok (.aload_n 0, 1) := by decide +kernel
theorem dX12_entriesBy_118 : decode cX12_entriesBy 118 = .ok (.iload_n 1, 1) := by decide +kernel
theorem dX12_entriesBy_119 : decode cX12_entriesBy 119 = .ok (.bipush 13, 2) := by decide +kernel
theorem dX12_entriesBy_121 : decode cX12_entriesBy 121 = .ok (.invokevirtual 104, 3) := by decide +kernel
theorem dX12_entriesBy_124 : decode cX12_entriesBy 124 = .ok (.if_icmp .ge 56, 3) := by decide +kernel
theorem dX12_entriesBy_127 : decode cX12_entriesBy 127 = .ok (.aload_n 0, 1) := by decide +kernel
theorem dX12_entriesBy_128 : decode cX12_entriesBy 128 = .ok (.iload_n 1, 1) := by decide +kernel
theorem dX12_entriesBy_129 : decode cX12_entriesBy 129 = .ok (.aload_n 0, 1) := by decide +kernel
theorem dX12_entriesBy_130 : decode cX12_entriesBy 130 = .ok (.iload_n 1, 1) := by decide +kernel
theorem dX12_entriesBy_131 : decode cX12_entriesBy 131 = .ok (.iload 7, 2) := by decide +kernel
theorem dX12_entriesBy_133 : decode cX12_entriesBy 133 = .ok (.invokevirtual 118, 3) := by decide +kernel
theorem dX12_entriesBy_136 : decode cX12_entriesBy 136 = .ok (.iconst 1, 1) := by decide +kernel
theorem dX12_entriesBy_137 : decode cX12_entriesBy 137 = .ok (.iadd, 1) := by decide +kernel
theorem dX12_entriesBy_138 : decode cX12_entriesBy 138 = .ok (.invokevirtual 121, 3) := by decide +kernel
theorem dX12_entriesBy_141 : decode cX12_entriesBy 141 = .ok (.istore 8, 2) := by decide +kernel
theorem dX12_entriesBy_143 : decode cX12_entriesBy 143 = .ok (.iload 6, 2) := by decide +kernel
theorem dX12_entriesBy_145 : decode cX12_entriesBy 145 = .ok (.iload 5, 2) := by decide +kernel
theorem dX12_entriesBy_147 : decode cX12_entriesBy 147 = .ok (.ifCond .ne 8, 3) := by decide +kernel
theorem dX12_entriesBy_150 : decode cX12_entriesBy 150 = .ok (.iload 8, 2) := by decide +kernel
theorem dX12_entriesBy_152 : decode cX12_entriesBy 152 = .ok (.ifCond .lt 14, 3) := by decide +kernel
theorem dX12_entriesBy_155 : decode cX12_entriesBy 155 = .ok (.iload 5, 2) := by decide +kernel
theorem dX12_entriesBy_157 : decode cX12_entriesBy 157 = .ok (.iconst 1, 1) := by decide +kernel
theorem dX12_entriesBy_158 : decode cX12_entriesBy 158 = .ok (.if_icmp .ne 12, 3) := by decide +kernel
theorem dX12_entriesBy_161 : decode cX12_entriesBy 161 = .ok (.iload 8, 2) := by decide +kernel
theorem dX12_entriesBy_163 : decode cX12_entriesBy 163 = .ok (.ifCond .ne 7, 3) := by decide +kernel
theorem dX12_entriesBy_166 : decode cX12_entriesBy 166 = .ok (.iconst 1, 1) := by decide +kernel
theorem dX12_entriesBy_167 : decode cX12_entriesBy 167 = .ok (.goto 4, 3) := by decide +kernel
theorem dX12_entriesBy_170 : decode cX12_entriesBy 170 = .ok (.iconst 0, 1) := by decide +kernel
theorem dX12_entriesBy_171 : decode cX12_entriesBy 171 = .ok (.iadd, 1) := by decide +kernel
theorem dX12_entriesBy_172 : decode cX12_entriesBy 172 = .ok (.istore 6, 2) := by decide +kernel
theorem dX12_entriesBy_174 : decode cX12_entriesBy 174 = .ok (.iinc 7 1, 3) := by decide +kernel
theorem dX12_entriesBy_177 : decode cX12_entriesBy 177 = .ok (.goto (-62), 3) := by decide +kernel
theorem dX12_entriesBy_180 : decode cX12_entriesBy 180 = .ok (.iload 6, 2) := by decide +kernel
theorem dX12_entriesBy_182 : decode cX12_entriesBy 182 = .ok (.ireturn, 1) := by decide +kernel
theorem dX12_ahead_0 : decode cX12_ahead 0 = .ok (.aload_n 0, 1) := by decide +kernel
theorem dX12_ahead_1 : decode cX12_ahead 1 = .ok (.iconst 0, 1) := by decide +kernel
theorem dX12_ahead_2 : decode cX12_ahead 2 = .ok (.putfield 1, 3) := by decide +kernel
theorem dX12_ahead_5 : decode cX12_ahead 5 = .ok (.aload_n 0, 1) := by decide +kernel
theorem dX12_ahead_6 : decode cX12_ahead 6 = .ok (.iload_n 1, 1) := by decide +kernel
theorem dX12_ahead_7 : decode cX12_ahead 7 = .ok (.iload_n 2, 1) := by decide +kernel
theorem dX12_ahead_8 : decode cX12_ahead 8 = .ok (.iload_n 3, 1) := by decide +kernel
theorem dX12_ahead_9 : decode cX12_ahead 9 = .ok (.iload 4, 2) := by decide +kernel
theorem dX12_ahead_11 : decode cX12_ahead 11 = .ok (.iconst 0, 1) := by decide +kernel
theorem dX12_ahead_12 : decode cX12_ahead 12 = .ok (.invokevirtual 383, 3) := by decide +kernel
theorem dX12_ahead_15 : decode cX12_ahead 15 = .ok (.ireturn, 1) := by decide +kernel
theorem dX12_same_0 : decode cX12_same 0 = .ok (.aload_n 0, 1) := by decide +kernel
theorem dX12_same_1 : decode cX12_same 1 = .ok (.iconst 0, 1) := by decide +kernel
theorem dX12_same_2 : decode cX12_same 2 = .ok (.putfield 1, 3) := by decide +kernel
theorem dX12_same_5 : decode cX12_same 5 = .ok (.aload_n 0, 1) := by decide +kernel
theorem dX12_same_6 : decode cX12_same 6 = .ok (.iload_n 1, 1) := by decide +kernel
theorem dX12_same_7 : decode cX12_same 7 = .ok (.iload_n 2, 1) := by decide +kernel
theorem dX12_same_8 : decode cX12_same 8 = .ok (.iload_n 3, 1) := by decide +kernel
theorem dX12_same_9 : decode cX12_same 9 = .ok (.iload 4, 2) := by decide +kernel
theorem dX12_same_11 : decode cX12_same 11 = .ok (.iconst 1, 1) := by decide +kernel
theorem dX12_same_12 : decode cX12_same 12 = .ok (.invokevirtual 383, 3) := by decide +kernel
theorem dX12_same_15 : decode cX12_same 15 = .ok (.ireturn, 1) := by decide +kernel
theorem dX12_indexBy_0 : decode cX12_indexBy 0 = .ok (.iconst 0, 1) := by decide +kernel
theorem dX12_indexBy_1 : decode cX12_indexBy 1 = .ok (.istore_n 2, 1) := by decide +kernel
theorem dX12_indexBy_2 : decode cX12_indexBy 2 = .ok (.iload_n 2, 1) := by decide +kernel
theorem dX12_indexBy_3 : decode cX12_indexBy 3 = .ok (.iconst 2, 1) := by decide +kernel
theorem dX12_indexBy_4 : decode cX12_indexBy 4 = .ok (.if_icmp .ge 42, 3) := by decide +kernel
theorem dX12_indexBy_7 : decode cX12_indexBy 7 = .ok (.aload_n 0, 1) := by decide +kernel
theorem dX12_indexBy_8 : decode cX12_indexBy 8 = .ok (.iload_n 2, 1) := by decide +kernel
theorem dX12_indexBy_9 : decode cX12_indexBy 9 = .ok (.iconst 0, 1) := by decide +kernel
theorem dX12_indexBy_10 : decode cX12_indexBy 10 = .ok (.invokevirtual 104, 3) := by decide +kernel
theorem dX12_indexBy_13 : decode cX12_indexBy 13 = .ok (.iconst 4, 1) := by decide +kernel
theorem dX12_indexBy_14 : decode cX12_indexBy 14 = .ok (.if_icmp .ne 26, 3) := by decide +kernel
theorem dX12_indexBy_17 : decode cX12_indexBy 17 = .ok (.aload_n 0, 1) := by decide +kernel
theorem dX12_indexBy_18 : decode cX12_indexBy 18 = .ok (.iload_n 2, 1) := by decide +kernel
theorem dX12_indexBy_19 : decode cX12_indexBy 19 = .ok (.bipush 9, 2) := by decide +kernel
theorem dX12_indexBy_21 : decode cX12_indexBy 21 = .ok (.invokevirtual 104, 3) := by decide +kernel
theorem dX12_indexBy_24 : decode cX12_indexBy 24 = .ok (.iconst (-1), 1) := by decide +kernel
theorem dX12_indexBy_25 : decode cX12_indexBy 25 = .ok (.if_icmp .ne 15, 3) := by decide +kernel
theorem dX12_indexBy_28 : decode cX12_indexBy 28 = .ok (.aload_n 0, 1) := by decide +kernel
theorem dX12_indexBy_29 : decode cX12_indexBy 29 = .ok (.iload_n 2, 1) := by decide +kernel
theorem dX12_indexBy_30 : decode cX12_indexBy 30 = .ok (.iconst 0, 1) := by decide +kernel
theorem dX12_indexBy_31 : decode cX12_indexBy 31 = .ok (.invokevirtual 111, 3) := by decide +kernel
theorem dX12_indexBy_34 : decode cX12_indexBy 34 = .ok (.iload_n 1, 1) := by decide +kernel
theorem dX12_indexBy_35 : decode cX12_indexBy 35 = .ok (.if_icmp .ne 5, 3) := by decide +kernel
theorem dX12_indexBy_38 : decode cX12_indexBy 38 = .ok (.iload_n 2, 1) := by decide +kernel
theorem dX12_indexBy_39 : decode cX12_indexBy 39 = .ok (.ireturn, 1) := by decide +kernel
theorem dX12_indexBy_40 : decode cX12_indexBy 40 = .ok (.iinc 2 1, 3) := by decide +kernel
theorem dX12_indexBy_43 : decode cX12_indexBy 43 = .ok (.goto (-41), 3) := by decide +kernel
theorem dX12_indexBy_46 : decode cX12_indexBy 46 = .ok (.iconst (-1), 1) := by decide +kernel
theorem dX12_indexBy_47 : decode cX12_indexBy 47 = .ok (.ireturn, 1) := by decide +kernel
theorem dX12_rowsThere_0 : decode cX12_rowsThere 0 = .ok (.iconst 0, 1) := by decide +kernel
theorem dX12_rowsThere_1 : decode cX12_rowsThere 1 = .ok (.istore_n 1, 1) := by decide +kernel
theorem dX12_rowsThere_2 : decode cX12_rowsThere 2 = .ok (.iconst 0, 1) := by decide +kernel
theorem dX12_rowsThere_3 : decode cX12_rowsThere 3 = .ok (.istore_n 2, 1) := by decide +kernel
theorem dX12_rowsThere_4 : decode cX12_rowsThere 4 = .ok (.iload_n 2, 1) := by decide +kernel
theorem dX12_rowsThere_5 : decode cX12_rowsThere 5 = .ok (.bipush 48, 2) := by decide +kernel
theorem dX12_rowsThere_7 : decode cX12_rowsThere 7 = .ok (.if_icmp .ge 24, 3) := by decide +kernel
theorem dX12_rowsThere_10 : decode cX12_rowsThere 10 = .ok (.iload_n 1, 1) := by decide +kernel
theorem dX12_rowsThere_11 : decode cX12_rowsThere 11 = .ok (.aload_n 0, 1) := by decide +kernel
theorem dX12_rowsThere_12 : decode cX12_rowsThere 12 = .ok (.getfield 13, 3) := by decide +kernel
theorem dX12_rowsThere_15 : decode cX12_rowsThere 15 = .ok (.aload_n 0, 1) := by decide +kernel
theorem dX12_rowsThere_16 : decode cX12_rowsThere 16 = .ok (.iload_n 2, 1) := by decide +kernel
theorem dX12_rowsThere_17 : decode cX12_rowsThere 17 = .ok (.invokevirtual 171, 3) := by decide +kernel
theorem dX12_rowsThere_20 : decode cX12_rowsThere 20 = .ok (.iconst 1, 1) := by decide +kernel
theorem dX12_rowsThere_21 : decode cX12_rowsThere 21 = .ok (.iadd, 1) := by decide +kernel
theorem dX12_rowsThere_22 : decode cX12_rowsThere 22 = .ok (.iaload, 1) := by decide +kernel
theorem dX12_rowsThere_23 : decode cX12_rowsThere 23 = .ok (.iadd, 1) := by decide +kernel
theorem dX12_rowsThere_24 : decode cX12_rowsThere 24 = .ok (.istore_n 1, 1) := by decide +kernel
theorem dX12_rowsThere_25 : decode cX12_rowsThere 25 = .ok (.iinc 2 1, 3) := by decide +kernel
theorem dX12_rowsThere_28 : decode cX12_rowsThere 28 = .ok (.goto (-24), 3) := by decide +kernel
theorem dX12_rowsThere_31 : decode cX12_rowsThere 31 = .ok (.iload_n 1, 1) := by decide +kernel
theorem dX12_rowsThere_32 : decode cX12_rowsThere 32 = .ok (.ireturn, 1) := by decide +kernel
theorem dX12_reads_0 : decode cX12_reads 0 = .ok (.aload_n 0, 1) := by decide +kernel
theorem dX12_reads_1 : decode cX12_reads 1 = .ok (.iconst 0, 1) := by decide +kernel
theorem dX12_reads_2 : decode cX12_reads 2 = .ok (.putfield 1, 3) := by decide +kernel
theorem dX12_reads_5 : decode cX12_reads 5 = .ok (.iload_n 1, 1) := by decide +kernel
theorem dX12_reads_6 : decode cX12_reads 6 = .ok (.i2l, 1) := by decide +kernel
theorem dX12_reads_7 : decode cX12_reads 7 = .ok (.lconst 0, 1) := by decide +kernel
theorem dX12_reads_8 : decode cX12_reads 8 = .ok (.ldc2_w 248, 3) := by decide +kernel
theorem dX12_reads_11 : decode cX12_reads 11 = .ok (.invokestatic 86, 3) := by decide +kernel
theorem dX12_reads_14 : decode cX12_reads 14 = .ok (.ifCond .ne 6, 3) := by decide +kernel
theorem dX12_reads_17 : decode cX12_reads 17 = .ok (.bipush (-2), 2) := by decide +kernel
theorem dX12_reads_19 : decode cX12_reads 19 = .ok (.ireturn, 1) := by decide +kernel
theorem dX12_reads_20 : decode cX12_reads 20 = .ok (.iload_n 2, 1) := by decide +kernel
theorem dX12_reads_21 : decode cX12_reads 21 = .ok (.invokestatic 158, 3) := by decide +kernel
theorem dX12_reads_24 : decode cX12_reads 24 = .ok (.ifCond .ne 6, 3) := by decide +kernel
theorem dX12_reads_27 : decode cX12_reads 27 = .ok (.bipush (-3), 2) := by decide +kernel
theorem dX12_reads_29 : decode cX12_reads 29 = .ok (.ireturn, 1) := by decide +kernel
theorem dX12_reads_30 : decode cX12_reads 30 = .ok (.aload_n 0, 1) := by decide +kernel
theorem dX12_reads_31 : decode cX12_reads 31 = .ok (.iload_n 1, 1) := by decide +kernel
theorem dX12_reads_32 : decode cX12_reads 32 = .ok (.invokevirtual 387, 3) := by decide +kernel
theorem dX12_reads_35 : decode cX12_reads 35 = .ok (.istore_n 3, 1) := by decide +kernel
theorem dX12_reads_36 : decode cX12_reads 36 = .ok (.iload_n 3, 1) := by decide +kernel
theorem dX12_reads_37 : decode cX12_reads 37 = .ok (.iconst (-1), 1) := by decide +kernel
theorem dX12_reads_38 : decode cX12_reads 38 = .ok (.if_icmp .ne 8, 3) := by decide +kernel
theorem dX12_reads_41 : decode cX12_reads 41 = .ok (.aload_n 0, 1) := by decide +kernel
theorem dX12_reads_42 : decode cX12_reads 42 = .ok (.invokevirtual 334, 3) := by decide +kernel
theorem dX12_reads_45 : decode cX12_reads 45 = .ok (.ireturn, 1) := by decide +kernel
theorem dX12_reads_46 : decode cX12_reads 46 = .ok (.iconst 1, 1) := by decide +kernel
theorem dX12_reads_47 : decode cX12_reads 47 = .ok (.istore 4, 2) := by decide +kernel
theorem dX12_reads_49 : decode cX12_reads 49 = .ok (.iconst 0, 1) := by decide +kernel
theorem dX12_reads_50 : decode cX12_reads 50 = .ok (.istore 5, 2) := by decide +kernel
theorem dX12_reads_52 : decode cX12_reads 52 = .ok (.iload 5, 2) := by decide +kernel
theorem dX12_reads_54 : decode cX12_reads 54 = .ok (.aload_n 0, 1) := by decide +kernel
theorem dX12_reads_55 : decode cX12_reads 55 = .ok (.iload_n 3, 1) := by decide +kernel
theorem dX12_reads_56 : decode cX12_reads 56 = .ok (.bipush 13, 2) := by decide +kernel
theorem dX12_reads_58 : decode cX12_reads 58 = .ok (.invokevirtual 104, 3) := by decide +kernel
theorem dX12_reads_61 : decode cX12_reads 61 = .ok (.if_icmp .ge 37, 3) := by decide +kernel
theorem dX12_reads_64 : decode cX12_reads 64 = .ok (.iload 4, 2) := by decide +kernel
theorem dX12_reads_66 : decode cX12_reads 66 = .ok (.aload_n 0, 1) := by decide +kernel
theorem dX12_reads_67 : decode cX12_reads 67 = .ok (.getfield 13, 3) := by decide +kernel
theorem dX12_reads_70 : decode cX12_reads 70 = .ok (.aload_n 0, 1) := by decide +kernel
theorem dX12_reads_71 : decode cX12_reads 71 = .ok (.iload_n 3, 1) := by decide +kernel
theorem dX12_reads_72 : decode cX12_reads 72 = .ok (.iload 5, 2) := by decide +kernel
theorem dX12_reads_74 : decode cX12_reads 74 = .ok (.invokevirtual 118, 3) := by decide +kernel
theorem dX12_reads_77 : decode cX12_reads 77 = .ok (.iconst 1, 1) := by decide +kernel
theorem dX12_reads_78 : decode cX12_reads 78 = .ok (.iadd, 1) := by decide +kernel
theorem dX12_reads_79 : decode cX12_reads 79 = .ok (.iaload, 1) := by decide +kernel
theorem dX12_reads_80 : decode cX12_reads 80 = .ok (.iload_n 2, 1) := by decide +kernel
theorem dX12_reads_81 : decode cX12_reads 81 = .ok (.if_icmp .ne 7, 3) := by decide +kernel
theorem dX12_reads_84 : decode cX12_reads 84 = .ok (.iconst 1, 1) := by decide +kernel
theorem dX12_reads_85 : decode cX12_reads 85 = .ok (.goto 4, 3) := by decide +kernel
theorem dX12_reads_88 : decode cX12_reads 88 = .ok (.iconst 0, 1) := by decide +kernel
theorem dX12_reads_89 : decode cX12_reads 89 = .ok (.iadd, 1) := by decide +kernel
theorem dX12_reads_90 : decode cX12_reads 90 = .ok (.istore 4, 2) := by decide +kernel
theorem dX12_reads_92 : decode cX12_reads 92 = .ok (.iinc 5 1, 3) := by decide +kernel
theorem dX12_reads_95 : decode cX12_reads 95 = .ok (.goto (-43), 3) := by decide +kernel
theorem dX12_reads_98 : decode cX12_reads 98 = .ok (.iload 4, 2) := by decide +kernel
theorem dX12_reads_100 : decode cX12_reads 100 = .ok (.ireturn, 1) := by decide +kernel
theorem dX12_by_0 : decode cX12_by 0 = .ok (.aload_n 0, 1) := by decide +kernel
theorem dX12_by_1 : decode cX12_by 1 = .ok (.iconst 0, 1) := by decide +kernel
theorem dX12_by_2 : decode cX12_by 2 = .ok (.putfield 1, 3) := by decide +kernel
theorem dX12_by_5 : decode cX12_by 5 = .ok (.iload_n 1, 1) := by decide +kernel
theorem dX12_by_6 : decode cX12_by 6 = .ok (.i2l, 1) := by decide +kernel
theorem dX12_by_7 : decode cX12_by 7 = .ok (.lconst 0, 1) := by decide +kernel
theorem dX12_by_8 : decode cX12_by 8 = .ok (.ldc2_w 248, 3) := by decide +kernel
theorem dX12_by_11 : decode cX12_by 11 = .ok (.invokestatic 86, 3) := by decide +kernel
theorem dX12_by_14 : decode cX12_by 14 = .ok (.ifCond .eq 11, 3) := by decide +kernel
theorem dX12_by_17 : decode cX12_by 17 = .ok (.aload_n 0, 1) := by decide +kernel
theorem dX12_by_18 : decode cX12_by 18 = .ok (.iload_n 1, 1) := by decide +kernel
theorem dX12_by_19 : decode cX12_by 19 = .ok (.invokevirtual 387, 3) := by decide +kernel
theorem dX12_by_22 : decode cX12_by 22 = .ok (.goto 5, 3) := by decide +kernel
theorem dX12_by_25 : decode cX12_by 25 = .ok (.bipush (-2), 2) := by decide +kernel
theorem dX12_by_27 : decode cX12_by 27 = .ok (.ireturn, 1) := by decide +kernel
theorem dX12_far_0 : decode cX12_far 0 = .ok (.aload_n 0, 1) := by decide +kernel
theorem dX12_far_1 : decode cX12_far 1 = .ok (.iconst 0, 1) := by decide +kernel
theorem dX12_far_2 : decode cX12_far 2 = .ok (.putfield 1, 3) := by decide +kernel
theorem dX12_far_5 : decode cX12_far 5 = .ok (.iload_n 1, 1) := by decide +kernel
theorem dX12_far_6 : decode cX12_far 6 = .ok (.invokestatic 346, 3) := by decide +kernel
theorem dX12_far_9 : decode cX12_far 9 = .ok (.ifCond .ne 6, 3) := by decide +kernel
theorem dX12_far_12 : decode cX12_far 12 = .ok (.bipush (-2), 2) := by decide +kernel
theorem dX12_far_14 : decode cX12_far 14 = .ok (.ireturn, 1) := by decide +kernel
theorem dX12_far_15 : decode cX12_far 15 = .ok (.aload_n 0, 1) := by decide +kernel
theorem dX12_far_16 : decode cX12_far 16 = .ok (.iload_n 1, 1) := by decide +kernel
theorem dX12_far_17 : decode cX12_far 17 = .ok (.iconst 0, 1) := by decide +kernel
theorem dX12_far_18 : decode cX12_far 18 = .ok (.invokevirtual 104, 3) := by decide +kernel
theorem dX12_far_21 : decode cX12_far 21 = .ok (.ifCond .ne 6, 3) := by decide +kernel
theorem dX12_far_24 : decode cX12_far 24 = .ok (.bipush (-5), 2) := by decide +kernel
theorem dX12_far_26 : decode cX12_far 26 = .ok (.ireturn, 1) := by decide +kernel
theorem dX12_far_27 : decode cX12_far 27 = .ok (.iconst 0, 1) := by decide +kernel
theorem dX12_far_28 : decode cX12_far 28 = .ok (.istore_n 2, 1) := by decide +kernel
theorem dX12_far_29 : decode cX12_far 29 = .ok (.iconst 0, 1) := by decide +kernel
theorem dX12_far_30 : decode cX12_far 30 = .ok (.istore_n 3, 1) := by decide +kernel
theorem dX12_far_31 : decode cX12_far 31 = .ok (.iconst 0, 1) := by decide +kernel
theorem dX12_far_32 : decode cX12_far 32 = .ok (.istore 4, 2) := by decide +kernel
theorem dX12_far_34 : decode cX12_far 34 = .ok (.iload 4, 2) := by decide +kernel
theorem dX12_far_36 : decode cX12_far 36 = .ok (.bipush 48, 2) := by decide +kernel
theorem dX12_far_38 : decode cX12_far 38 = .ok (.if_icmp .ge 65, 3) := by decide +kernel
theorem dX12_far_41 : decode cX12_far 41 = .ok (.aload_n 0, 1) := by decide +kernel
theorem dX12_far_42 : decode cX12_far 42 = .ok (.iload_n 1, 1) := by decide +kernel
theorem dX12_far_43 : decode cX12_far 43 = .ok (.aload_n 0, 1) := by decide +kernel
theorem dX12_far_44 : decode cX12_far 44 = .ok (.iload 4, 2) := by decide +kernel
theorem dX12_far_46 : decode cX12_far 46 = .ok (.invokevirtual 171, 3) := by decide +kernel
theorem dX12_far_49 : decode cX12_far 49 = .ok (.invokevirtual 136, 3) := by decide +kernel
theorem dX12_far_52 : decode cX12_far 52 = .ok (.ifCond .ne 6, 3) := by decide +kernel
theorem dX12_far_55 : decode cX12_far 55 = .ok (.goto 42, 3) := by decide +kernel
theorem dX12_far_58 : decode cX12_far 58 = .ok (.aload_n 0, 1) := by decide +kernel
theorem dX12_far_59 : decode cX12_far 59 = .ok (.iload_n 1, 1) := by decide +kernel
theorem dX12_far_60 : decode cX12_far 60 = .ok (.aload_n 0, 1) := by decide +kernel
theorem dX12_far_61 : decode cX12_far 61 = .ok (.iload 4, 2) := by decide +kernel
theorem dX12_far_63 : decode cX12_far 63 = .ok (.invokevirtual 171, 3) := by decide +kernel
theorem dX12_far_66 : decode cX12_far 66 = .ok (.invokevirtual 133, 3) := by decide +kernel
theorem dX12_far_69 : decode cX12_far 69 = .ok (.iinc 3 1, 3) := by decide +kernel
theorem dX12_far_72 : decode cX12_far 72 = .ok (.iload_n 2, 1) := by decide +kernel
theorem dX12_far_73 : decode cX12_far 73 = .ok (.aload_n 0, 1) := by decide +kernel
theorem dX12_far_74 : decode cX12_far 74 = .ok (.iload_n 1, 1) := by decide +kernel
theorem dX12_far_75 : decode cX12_far 75 = .ok (.aload_n 0, 1) := by decide +kernel
theorem dX12_far_76 : decode cX12_far 76 = .ok (.iload_n 1, 1) := by decide +kernel
theorem dX12_far_77 : decode cX12_far 77 = .ok (.iload 4, 2) := by decide +kernel
theorem dX12_far_79 : decode cX12_far 79 = .ok (.invokevirtual 124, 3) := by decide +kernel
theorem dX12_far_82 : decode cX12_far 82 = .ok (.iload 4, 2) := by decide +kernel
theorem dX12_far_84 : decode cX12_far 84 = .ok (.invokevirtual 127, 3) := by decide +kernel
theorem dX12_far_87 : decode cX12_far 87 = .ok (.ifCond .eq 7, 3) := by decide +kernel
theorem dX12_far_90 : decode cX12_far 90 = .ok (.iconst 1, 1) := by decide +kernel
theorem dX12_far_91 : decode cX12_far 91 = .ok (.goto 4, 3) := by decide +kernel
theorem dX12_far_94 : decode cX12_far 94 = .ok (.iconst 0, 1) := by decide +kernel
theorem dX12_far_95 : decode cX12_far 95 = .ok (.iadd, 1) := by decide +kernel
theorem dX12_far_96 : decode cX12_far 96 = .ok (.istore_n 2, 1) := by decide +kernel
theorem dX12_far_97 : decode cX12_far 97 = .ok (.iinc 4 1, 3) := by decide +kernel
theorem dX12_far_100 : decode cX12_far 100 = .ok (.goto (-66), 3) := by decide +kernel
theorem dX12_far_103 : decode cX12_far 103 = .ok (.iload_n 3, 1) := by decide +kernel
theorem dX12_far_104 : decode cX12_far 104 = .ok (.iload_n 2, 1) := by decide +kernel
theorem dX12_far_105 : decode cX12_far 105 = .ok (.isub, 1) := by decide +kernel
theorem dX12_far_106 : decode cX12_far 106 = .ok (.aload_n 0, 1) := by decide +kernel
theorem dX12_far_107 : decode cX12_far 107 = .ok (.iload_n 1, 1) := by decide +kernel
theorem dX12_far_108 : decode cX12_far 108 = .ok (.bipush 13, 2) := by decide +kernel
theorem dX12_far_110 : decode cX12_far 110 = .ok (.invokevirtual 104, 3) := by decide +kernel
theorem dX12_far_113 : decode cX12_far 113 = .ok (.iadd, 1) := by decide +kernel
theorem dX12_far_114 : decode cX12_far 114 = .ok (.iload_n 2, 1) := by decide +kernel
theorem dX12_far_115 : decode cX12_far 115 = .ok (.isub, 1) := by decide +kernel
theorem dX12_far_116 : decode cX12_far 116 = .ok (.ireturn, 1) := by decide +kernel
theorem dX12_areOneKey_0 : decode cX12_areOneKey 0 = .ok (.aload_n 0, 1) := by decide +kernel
theorem dX12_areOneKey_1 : decode cX12_areOneKey 1 = .ok (.iload_n 1, 1) := by decide +kernel
theorem dX12_areOneKey_2 : decode cX12_areOneKey 2 = .ok (.aload_n 0, 1) := by decide +kernel
theorem dX12_areOneKey_3 : decode cX12_areOneKey 3 = .ok (.iload_n 2, 1) := by decide +kernel
theorem dX12_areOneKey_4 : decode cX12_areOneKey 4 = .ok (.invokevirtual 171, 3) := by decide +kernel
theorem dX12_areOneKey_7 : decode cX12_areOneKey 7 = .ok (.invokevirtual 136, 3) := by decide +kernel
theorem dX12_areOneKey_10 : decode cX12_areOneKey 10 = .ok (.ifCond .eq 38, 3) := by decide +kernel
theorem dX12_areOneKey_13 : decode cX12_areOneKey 13 = .ok (.aload_n 0, 1) := by decide +kernel
theorem dX12_areOneKey_14 : decode cX12_areOneKey 14 = .ok (.iload_n 1, 1) := by decide +kernel
theorem dX12_areOneKey_15 : decode cX12_areOneKey 15 = .ok (.aload_n 0, 1) := by decide +kernel
theorem dX12_areOneKey_16 : decode cX12_areOneKey 16 = .ok (.iload_n 3, 1) := by decide +kernel
theorem dX12_areOneKey_17 : decode cX12_areOneKey 17 = .ok (.invokevirtual 171, 3) := by decide +kernel
theorem dX12_areOneKey_20 : decode cX12_areOneKey 20 = .ok (.invokevirtual 136, 3) := by decide +kernel
theorem dX12_areOneKey_23 : decode cX12_areOneKey 23 = .ok (.ifCond .eq 25, 3) := by decide +kernel
theorem dX12_areOneKey_26 : decode cX12_areOneKey 26 = .ok (.aload_n 0, 1) := by decide +kernel
theorem dX12_areOneKey_27 : decode cX12_areOneKey 27 = .ok (.iload_n 1, 1) := by decide +kernel
theorem dX12_areOneKey_28 : decode cX12_areOneKey 28 = .ok (.aload_n 0, 1) := by decide +kernel
theorem dX12_areOneKey_29 : decode cX12_areOneKey 29 = .ok (.iload_n 2, 1) := by decide +kernel
theorem dX12_areOneKey_30 : decode cX12_areOneKey 30 = .ok (.invokevirtual 171, 3) := by decide +kernel
theorem dX12_areOneKey_33 : decode cX12_areOneKey 33 = .ok (.aload_n 0, 1) := by decide +kernel
theorem dX12_areOneKey_34 : decode cX12_areOneKey 34 = .ok (.iload_n 3, 1) := by decide +kernel
theorem dX12_areOneKey_35 : decode cX12_areOneKey 35 = .ok (.invokevirtual 171, 3) := by decide +kernel
theorem dX12_areOneKey_38 : decode cX12_areOneKey 38 = .ok (.invokevirtual 139, 3) := by decide +kernel
theorem dX12_areOneKey_41 : decode cX12_areOneKey 41 = .ok (.ifCond .eq 7, 3) := by decide +kernel
theorem dX12_areOneKey_44 : decode cX12_areOneKey 44 = .ok (.iconst 1, 1) := by decide +kernel
theorem dX12_areOneKey_45 : decode cX12_areOneKey 45 = .ok (.goto 4, 3) := by decide +kernel
theorem dX12_areOneKey_48 : decode cX12_areOneKey 48 = .ok (.iconst 0, 1) := by decide +kernel
theorem dX12_areOneKey_49 : decode cX12_areOneKey 49 = .ok (.ireturn, 1) := by decide +kernel
theorem dX12_isHead_0 : decode cX12_isHead 0 = .ok (.iconst 0, 1) := by decide +kernel
theorem dX12_isHead_1 : decode cX12_isHead 1 = .ok (.istore_n 3, 1) := by decide +kernel
theorem dX12_isHead_2 : decode cX12_isHead 2 = .ok (.iload_n 3, 1) := by decide +kernel
theorem dX12_isHead_3 : decode cX12_isHead 3 = .ok (.iload_n 2, 1) := by decide +kernel
theorem dX12_isHead_4 : decode cX12_isHead 4 = .ok (.if_icmp .ge 21, 3) := by decide +kernel
theorem dX12_isHead_7 : decode cX12_isHead 7 = .ok (.aload_n 0, 1) := by decide +kernel
theorem dX12_isHead_8 : decode cX12_isHead 8 = .ok (.iload_n 1, 1) := by decide +kernel
theorem dX12_isHead_9 : decode cX12_isHead 9 = .ok (.iload_n 2, 1) := by decide +kernel
theorem dX12_isHead_10 : decode cX12_isHead 10 = .ok (.iload_n 3, 1) := by decide +kernel
theorem dX12_isHead_11 : decode cX12_isHead 11 = .ok (.invokevirtual 390, 3) := by decide +kernel
theorem dX12_isHead_14 : decode cX12_isHead 14 = .ok (.ifCond .eq 5, 3) := by decide +kernel
theorem dX12_isHead_17 : decode cX12_isHead 17 = .ok (.iconst 0, 1) := by decide +kernel
theorem dX12_isHead_18 : decode cX12_isHead 18 = .ok (.ireturn, 1) := by decide +kernel
theorem dX12_isHead_19 : decode cX12_isHead 19 = .ok (.iinc 3 1, 3) := by decide +kernel
theorem dX12_isHead_22 : decode cX12_isHead 22 = .ok (.goto (-20), 3) := by decide +kernel
theorem dX12_isHead_25 : decode cX12_isHead 25 = .ok (.iload_n 2, 1) := by decide +kernel
theorem dX12_isHead_26 : decode cX12_isHead 26 = .ok (.iconst 1, 1) := by decide +kernel
theorem dX12_isHead_27 : decode cX12_isHead 27 = .ok (.iadd, 1) := by decide +kernel
theorem dX12_isHead_28 : decode cX12_isHead 28 = .ok (.istore_n 3, 1) := by decide +kernel
theorem dX12_isHead_29 : decode cX12_isHead 29 = .ok (.iload_n 3, 1) := by decide +kernel
theorem dX12_isHead_30 : decode cX12_isHead 30 = .ok (.bipush 48, 2) := by decide +kernel
theorem dX12_isHead_32 : decode cX12_isHead 32 = .ok (.if_icmp .ge 21, 3) := by decide +kernel
theorem dX12_isHead_35 : decode cX12_isHead 35 = .ok (.aload_n 0, 1) := by decide +kernel
theorem dX12_isHead_36 : decode cX12_isHead 36 = .ok (.iload_n 1, 1) := by decide +kernel
theorem dX12_isHead_37 : decode cX12_isHead 37 = .ok (.iload_n 2, 1) := by decide +kernel
theorem dX12_isHead_38 : decode cX12_isHead 38 = .ok (.iload_n 3, 1) := by decide +kernel
theorem dX12_isHead_39 : decode cX12_isHead 39 = .ok (.invokevirtual 390, 3) := by decide +kernel
theorem dX12_isHead_42 : decode cX12_isHead 42 = .ok (.ifCond .eq 5, 3) := by decide +kernel
theorem dX12_isHead_45 : decode cX12_isHead 45 = .ok (.iconst 1, 1) := by decide +kernel
theorem dX12_isHead_46 : decode cX12_isHead 46 = .ok (.ireturn, 1) := by decide +kernel
theorem dX12_isHead_47 : decode cX12_isHead 47 = .ok (.iinc 3 1, 3) := by decide +kernel
theorem dX12_isHead_50 : decode cX12_isHead 50 = .ok (.goto (-21), 3) := by decide +kernel
theorem dX12_isHead_53 : decode cX12_isHead 53 = .ok (.iconst 0, 1) := by decide +kernel
theorem dX12_isHead_54 : decode cX12_isHead 54 = .ok (.ireturn, 1) := by decide +kernel
theorem dX12_isKeyAhead_0 : decode cX12_isKeyAhead 0 = .ok (.iconst 0, 1) := by decide +kernel
theorem dX12_isKeyAhead_1 : decode cX12_isKeyAhead 1 = .ok (.istore 4, 2) := by decide +kernel
theorem dX12_isKeyAhead_3 : decode cX12_isKeyAhead 3 = .ok (.iload 4, 2) := by decide +kernel
theorem dX12_isKeyAhead_5 : decode cX12_isKeyAhead 5 = .ok (.aload_n 0, 1) := by decide +kernel
theorem dX12_isKeyAhead_6 : decode cX12_isKeyAhead 6 = .ok (.iload_n 1, 1) := by decide +kernel
theorem dX12_isKeyAhead_7 : decode cX12_isKeyAhead 7 = .ok (.iconst 5, 1) := by decide +kernel
theorem dX12_isKeyAhead_8 : decode cX12_isKeyAhead 8 = .ok (.invokevirtual 104, 3) := by decide +kernel
theorem dX12_isKeyAhead_11 : decode cX12_isKeyAhead 11 = .ok (.if_icmp .ge 91, 3) := by decide +kernel
theorem dX12_isKeyAhead_14 : decode cX12_isKeyAhead 14 = .ok (.aload_n 0, 1) := by decide +kernel
theorem dX12_isKeyAhead_15 : decode cX12_isKeyAhead 15 = .ok (.getfield 13, 3) := by decide +kernel
theorem dX12_isKeyAhead_18 : decode cX12_isKeyAhead 18 = .ok (.aload_n 0, 1) := by decide +kernel
theorem dX12_isKeyAhead_19 : decode cX12_isKeyAhead 19 = .ok (.iload_n 2, 1) := by decide +kernel
theorem dX12_isKeyAhead_20 : decode cX12_isKeyAhead 20 = .ok (.invokevirtual 171, 3) := by decide +kernel
theorem dX12_isKeyAhead_23 : decode cX12_isKeyAhead 23 = .ok (.iconst 2, 1) := by decide +kernel
theorem dX12_isKeyAhead_24 : decode cX12_isKeyAhead 24 = .ok (.iadd, 1) := by decide +kernel
theorem dX12_isKeyAhead_25 : decode cX12_isKeyAhead 25 = .ok (.aload_n 0, 1) := by decide +kernel
theorem dX12_isKeyAhead_26 : decode cX12_isKeyAhead 26 = .ok (.iload_n 1, 1) := by decide +kernel
theorem dX12_isKeyAhead_27 : decode cX12_isKeyAhead 27 = .ok (.iload 4, 2) := by decide +kernel
theorem dX12_isKeyAhead_29 : decode cX12_isKeyAhead 29 = .ok (.invokevirtual 111, 3) := by decide +kernel
theorem dX12_isKeyAhead_32 : decode cX12_isKeyAhead 32 = .ok (.iadd, 1) := by decide +kernel
theorem dX12_isKeyAhead_33 : decode cX12_isKeyAhead 33 = .ok (.iaload, 1) := by decide +kernel
theorem dX12_isKeyAhead_34 : decode cX12_isKeyAhead 34 = .ok (.aload_n 0, 1) := by decide +kernel
theorem dX12_isKeyAhead_35 : decode cX12_isKeyAhead 35 = .ok (.getfield 13, 3) := by decide +kernel
theorem dX12_isKeyAhead_38 : decode cX12_isKeyAhead 38 = .ok (.aload_n 0, 1) := by decide +kernel
theorem dX12_isKeyAhead_39 : decode cX12_isKeyAhead 39 = .ok (.iload_n 3, 1) := by decide +kernel
theorem dX12_isKeyAhead_40 : decode cX12_isKeyAhead 40 = .ok (.invokevirtual 171, 3) := by decide +kernel
theorem dX12_isKeyAhead_43 : decode cX12_isKeyAhead 43 = .ok (.iconst 2, 1) := by decide +kernel
theorem dX12_isKeyAhead_44 : decode cX12_isKeyAhead 44 = .ok (.iadd, 1) := by decide +kernel
theorem dX12_isKeyAhead_45 : decode cX12_isKeyAhead 45 = .ok (.aload_n 0, 1) := by decide +kernel
theorem dX12_isKeyAhead_46 : decode cX12_isKeyAhead 46 = .ok (.iload_n 1, 1) := by decide +kernel
theorem dX12_isKeyAhead_47 : decode cX12_isKeyAhead 47 = .ok (.iload 4, 2) := by decide +kernel
theorem dX12_isKeyAhead_49 : decode cX12_isKeyAhead 49 = .ok (.invokevirtual 111, 3) := by decide +kernel
theorem dX12_isKeyAhead_52 : decode cX12_isKeyAhead 52 = .ok (.iadd, 1) := by decide +kernel
theorem dX12_isKeyAhead_53 : decode cX12_isKeyAhead 53 = .ok (.iaload, 1) := by decide +kernel
theorem dX12_isKeyAhead_54 : decode cX12_isKeyAhead 54 = .ok (.isub, 1) := by decide +kernel
theorem dX12_isKeyAhead_55 : decode cX12_isKeyAhead 55 = .ok (.istore 5, 2) := by decide +kernel
theorem dX12_isKeyAhead_57 : decode cX12_isKeyAhead 57 = .ok (.iload 5, 2) := by decide +kernel
theorem dX12_isKeyAhead_59 : decode cX12_isKeyAhead 59 = .ok (.ifCond .eq 37, 3) := by decide +kernel
theorem dX12_isKeyAhead_62 : decode cX12_isKeyAhead 62 = .ok (.aload_n 0, 1) := by decide +kernel
theorem dX12_isKeyAhead_63 : decode cX12_isKeyAhead 63 = .ok (.iload_n 1, 1) := by decide +kernel
theorem dX12_isKeyAhead_64 : decode cX12_isKeyAhead 64 = .ok (.iload 4, 2) := by decide +kernel
theorem dX12_isKeyAhead_66 : decode cX12_isKeyAhead 66 = .ok (.invokevirtual 114, 3) := by decide +kernel
theorem dX12_isKeyAhead_69 : decode cX12_isKeyAhead 69 = .ok (.ifCond .eq 16, 3) := by decide +kernel
theorem dX12_isKeyAhead_72 : decode cX12_isKeyAhead 72 = .ok (.iload 5, 2) := by decide +kernel
theorem dX12_isKeyAhead_74 : decode cX12_isKeyAhead 74 = .ok (.ifCond .le 7, 3) := by decide +kernel
theorem dX12_isKeyAhead_77 : decode cX12_isKeyAhead 77 = .ok (.iconst 1, 1) := by decide +kernel
theorem dX12_isKeyAhead_78 : decode cX12_isKeyAhead 78 = .ok (.goto 17, 3) := by decide +kernel
theorem dX12_isKeyAhead_81 : decode cX12_isKeyAhead 81 = .ok (.iconst 0, 1) := by decide +kernel
theorem dX12_isKeyAhead_82 : decode cX12_isKeyAhead 82 = .ok (.goto 13, 3) := by decide +kernel
theorem dX12_isKeyAhead_85 : decode cX12_isKeyAhead 85 = .ok (.iload 5, 2) := by decide +kernel
theorem dX12_isKeyAhead_87 : decode cX12_isKeyAhead 87 = .ok (.ifCond .ge 7, 3) := by decide +kernel
theorem dX12_isKeyAhead_90 : decode cX12_isKeyAhead 90 = .ok (.iconst 1, 1) := by decide +kernel
theorem dX12_isKeyAhead_91 : decode cX12_isKeyAhead 91 = .ok (.goto 4, 3) := by decide +kernel
theorem dX12_isKeyAhead_94 : decode cX12_isKeyAhead 94 = .ok (.iconst 0, 1) := by decide +kernel
theorem dX12_isKeyAhead_95 : decode cX12_isKeyAhead 95 = .ok (.ireturn, 1) := by decide +kernel
theorem dX12_isKeyAhead_96 : decode cX12_isKeyAhead 96 = .ok (.iinc 4 1, 3) := by decide +kernel
theorem dX12_isKeyAhead_99 : decode cX12_isKeyAhead 99 = .ok (.goto (-96), 3) := by decide +kernel
theorem dX12_isKeyAhead_102 : decode cX12_isKeyAhead 102 = .ok (.iconst 0, 1) := by decide +kernel
theorem dX12_isKeyAhead_103 : decode cX12_isKeyAhead 103 = .ok (.ireturn, 1) := by decide +kernel
theorem dX12_laysHeads_0 : decode cX12_laysHeads 0 = .ok (.aload_n 0, 1) := by decide +kernel
theorem dX12_laysHeads_1 : decode cX12_laysHeads 1 = .ok (.iconst 0, 1) := by decide +kernel
theorem dX12_laysHeads_2 : decode cX12_laysHeads 2 = .ok (.putfield 393, 3) := by decide +kernel
theorem dX12_laysHeads_5 : decode cX12_laysHeads 5 = .ok (.iconst 0, 1) := by decide +kernel
theorem dX12_laysHeads_6 : decode cX12_laysHeads 6 = .ok (.istore_n 2, 1) := by decide +kernel
theorem dX12_laysHeads_7 : decode cX12_laysHeads 7 = .ok (.iload_n 2, 1) := by decide +kernel
theorem dX12_laysHeads_8 : decode cX12_laysHeads 8 = .ok (.bipush 48, 2) := by decide +kernel
theorem dX12_laysHeads_10 : decode cX12_laysHeads 10 = .ok (.if_icmp .ge 84, 3) := by decide +kernel
theorem dX12_laysHeads_13 : decode cX12_laysHeads 13 = .ok (.aload_n 0, 1) := by decide +kernel
theorem dX12_laysHeads_14 : decode cX12_laysHeads 14 = .ok (.iload_n 1, 1) := by decide +kernel
theorem dX12_laysHeads_15 : decode cX12_laysHeads 15 = .ok (.iload_n 2, 1) := by decide +kernel
theorem dX12_laysHeads_16 : decode cX12_laysHeads 16 = .ok (.invokevirtual 396, 3) := by decide +kernel
theorem dX12_laysHeads_19 : decode cX12_laysHeads 19 = .ok (.ifCond .ne 6, 3) := by decide +kernel
theorem dX12_laysHeads_22 : decode cX12_laysHeads 22 = .ok (.goto 66, 3) := by decide +kernel
theorem dX12_laysHeads_25 : decode cX12_laysHeads 25 = .ok (.aload_n 0, 1) := by decide +kernel
theorem dX12_laysHeads_26 : decode cX12_laysHeads 26 = .ok (.getfield 393, 3) := by decide +kernel
theorem dX12_laysHeads_29 : decode cX12_laysHeads 29 = .ok (.istore_n 3, 1) := by decide +kernel
theorem dX12_laysHeads_30 : decode cX12_laysHeads 30 = .ok (.iload_n 3, 1) := by decide +kernel
theorem dX12_laysHeads_31 : decode cX12_laysHeads 31 = .ok (.ifCond .le 40, 3) := by decide +kernel
theorem dX12_laysHeads_34 : decode cX12_laysHeads 34 = .ok (.aload_n 0, 1) := by decide +kernel
theorem dX12_laysHeads_35 : decode cX12_laysHeads 35 = .ok (.iload_n 1, 1) := by decide +kernel
theorem dX12_laysHeads_36 : decode cX12_laysHeads 36 = .ok (.iload_n 2, 1) := by decide +kernel
theorem dX12_laysHeads_37 : decode cX12_laysHeads 37 = .ok (.aload_n 0, 1) := by decide +kernel
theorem dX12_laysHeads_38 : decode cX12_laysHeads 38 = .ok (.getfield 65, 3) := by decide +kernel
theorem dX12_laysHeads_41 : decode cX12_laysHeads 41 = .ok (.iload_n 3, 1) := by decide +kernel
theorem dX12_laysHeads_42 : decode cX12_laysHeads 42 = .ok (.iconst 1, 1) := by decide +kernel
theorem dX12_laysHeads_43 : decode cX12_laysHeads 43 = .ok (.isub, 1) := by decide +kernel
theorem dX12_laysHeads_44 : decode cX12_laysHeads 44 = .ok (.iaload, 1) := by decide +kernel
theorem dX12_laysHeads_45 : decode cX12_laysHeads 45 = .ok (.invokevirtual 399, 3) := by decide +kernel
theorem dX12_laysHeads_48 : decode cX12_laysHeads 48 = .ok (.ifCond .eq 23, 3) := by decide +kernel
theorem dX12_laysHeads_51 : decode cX12_laysHeads 51 = .ok (.aload_n 0, 1) := by decide +kernel
theorem dX12_laysHeads_52 : decode cX12_laysHeads 52 = .ok (.getfield 65, 3) := by decide +kernel
theorem dX12_laysHeads_55 : decode cX12_laysHeads 55 = .ok (.iload_n 3, 1) := by decide +kernel
theorem dX12_laysHeads_56 : decode cX12_laysHeads 56 = .ok (.aload_n 0, 1) := by decide +kernel
theorem dX12_laysHeads_57 : decode cX12_laysHeads 57 = .ok (.getfield 65, 3) := by decide +kernel
theorem dX12_laysHeads_60 : decode cX12_laysHeads 60 = .ok (.iload_n 3, 1) := by decide +kernel
theorem dX12_laysHeads_61 : decode cX12_laysHeads 61 = .ok (.iconst 1, 1) := by decide +kernel
theorem dX12_laysHeads_62 : decode cX12_laysHeads 62 = .ok (.isub, 1) := by decide +kernel
theorem dX12_laysHeads_63 : decode cX12_laysHeads 63 = .ok (.iaload, 1) := by decide +kernel
theorem dX12_laysHeads_64 : decode cX12_laysHeads 64 = .ok (.iastore, 1) := by decide +kernel
theorem dX12_laysHeads_65 : decode cX12_laysHeads 65 = .ok (.iinc 3 (-1), 3) := by decide +kernel
theorem dX12_laysHeads_68 : decode cX12_laysHeads 68 = .ok (.goto (-38), 3) := by decide +kernel
theorem dX12_laysHeads_71 : decode cX12_laysHeads 71 = .ok (.aload_n 0, 1) := by decide +kernel
theorem dX12_laysHeads_72 : decode cX12_laysHeads 72 = .ok (.getfield 65, 3) := by decide +kernel
theorem dX12_laysHeads_75 : decode cX12_laysHeads 75 = .ok (.iload_n 3, 1) := by decide +kernel
theorem dX12_laysHeads_76 : decode cX12_laysHeads 76 = .ok (.iload_n 2, 1) := by decide +kernel
theorem dX12_laysHeads_77 : decode cX12_laysHeads 77 = .ok (.iastore, 1) := by decide +kernel
theorem dX12_laysHeads_78 : decode cX12_laysHeads 78 = .ok (.aload_n 0, 1) := by decide +kernel
theorem dX12_laysHeads_79 : decode cX12_laysHeads 79 = .ok (.dup, 1) := by decide +kernel
theorem dX12_laysHeads_80 : decode cX12_laysHeads 80 = .ok (.getfield 393, 3) := by decide +kernel
theorem dX12_laysHeads_83 : decode cX12_laysHeads 83 = .ok (.iconst 1, 1) := by decide +kernel
theorem dX12_laysHeads_84 : decode cX12_laysHeads 84 = .ok (.iadd, 1) := by decide +kernel
theorem dX12_laysHeads_85 : decode cX12_laysHeads 85 = .ok (.putfield 393, 3) := by decide +kernel
theorem dX12_laysHeads_88 : decode cX12_laysHeads 88 = .ok (.iinc 2 1, 3) := by decide +kernel
theorem dX12_laysHeads_91 : decode cX12_laysHeads 91 = .ok (.goto (-84), 3) := by decide +kernel
theorem dX12_laysHeads_94 : decode cX12_laysHeads 94 = .ok (.return_, 1) := by decide +kernel
theorem dX12_alike_0 : decode cX12_alike 0 = .ok (.aload_n 0, 1) := by decide +kernel
theorem dX12_alike_1 : decode cX12_alike 1 = .ok (.iconst 0, 1) := by decide +kernel
theorem dX12_alike_2 : decode cX12_alike 2 = .ok (.putfield 1, 3) := by decide +kernel
theorem dX12_alike_5 : decode cX12_alike 5 = .ok (.iload_n 1, 1) := by decide +kernel
theorem dX12_alike_6 : decode cX12_alike 6 = .ok (.invokestatic 346, 3) := by decide +kernel
theorem dX12_alike_9 : decode cX12_alike 9 = .ok (.ifCond .ne 6, 3) := by decide +kernel
theorem dX12_alike_12 : decode cX12_alike 12 = .ok (.bipush (-2), 2) := by decide +kernel
theorem dX12_alike_14 : decode cX12_alike 14 = .ok (.ireturn, 1) := by decide +kernel
theorem dX12_alike_15 : decode cX12_alike 15 = .ok (.iload_n 2, 1) := by decide +kernel
theorem dX12_alike_16 : decode cX12_alike 16 = .ok (.iconst (-1), 1) := by decide +kernel
theorem dX12_alike_17 : decode cX12_alike 17 = .ok (.if_icmp .lt 7, 3) := by decide +kernel
theorem dX12_alike_20 : decode cX12_alike 20 = .ok (.iload_n 3, 1) := by decide +kernel
theorem dX12_alike_21 : decode cX12_alike 21 = .ok (.ifCond .ge 6, 3) := by decide +kernel
theorem dX12_alike_24 : decode cX12_alike 24 = .ok (.bipush (-3), 2) := by decide +kernel
theorem dX12_alike_26 : decode cX12_alike 26 = .ok (.ireturn, 1) := by decide +kernel
theorem dX12_alike_27 : decode cX12_alike 27 = .ok (.aload_n 0, 1) := by decide +kernel
theorem dX12_alike_28 : decode cX12_alike 28 = .ok (.iload_n 1, 1) := by decide +kernel
theorem dX12_alike_29 : decode cX12_alike 29 = .ok (.iconst 0, 1) := by decide +kernel
theorem dX12_alike_30 : decode cX12_alike 30 = .ok (.invokevirtual 104, 3) := by decide +kernel
theorem dX12_alike_33 : decode cX12_alike 33 = .ok (.ifCond .ne 6, 3) := by decide +kernel
theorem dX12_alike_36 : decode cX12_alike 36 = .ok (.bipush (-5), 2) := by decide +kernel
theorem dX12_alike_38 : decode cX12_alike 38 = .ok (.ireturn, 1) := by decide +kernel
theorem dX12_alike_39 : decode cX12_alike 39 = .ok (.aload_n 0, 1) := by decide +kernel
theorem dX12_alike_40 : decode cX12_alike 40 = .ok (.iload_n 1, 1) := by decide +kernel
theorem dX12_alike_41 : decode cX12_alike 41 = .ok (.invokevirtual 402, 3) := by decide +kernel
theorem dX12_alike_44 : decode cX12_alike 44 = .ok (.iload_n 2, 1) := by decide +kernel
theorem dX12_alike_45 : decode cX12_alike 45 = .ok (.iconst (-1), 1) := by decide +kernel
theorem dX12_alike_46 : decode cX12_alike 46 = .ok (.if_icmp .ne 8, 3) := by decide +kernel
theorem dX12_alike_49 : decode cX12_alike 49 = .ok (.aload_n 0, 1) := by decide +kernel
theorem dX12_alike_50 : decode cX12_alike 50 = .ok (.getfield 393, 3) := by decide +kernel
theorem dX12_alike_53 : decode cX12_alike 53 = .ok (.ireturn, 1) := by decide +kernel
theorem dX12_alike_54 : decode cX12_alike 54 = .ok (.iload_n 2, 1) := by decide +kernel
theorem dX12_alike_55 : decode cX12_alike 55 = .ok (.aload_n 0, 1) := by decide +kernel
theorem dX12_alike_56 : decode cX12_alike 56 = .ok (.getfield 393, 3) := by decide +kernel
theorem dX12_alike_59 : decode cX12_alike 59 = .ok (.if_icmp .lt 5, 3) := by decide +kernel
theorem dX12_alike_62 : decode cX12_alike 62 = .ok (.iconst (-1), 1) := by decide +kernel
theorem dX12_alike_63 : decode cX12_alike 63 = .ok (.ireturn, 1) := by decide +kernel
theorem dX12_alike_64 : decode cX12_alike 64 = .ok (.iconst 0, 1) := by decide +kernel
theorem dX12_alike_65 : decode cX12_alike 65 = .ok (.istore 4, 2) := by decide +kernel
theorem dX12_alike_67 : decode cX12_alike 67 = .ok (.aload_n 0, 1) := by decide +kernel
theorem dX12_alike_68 : decode cX12_alike 68 = .ok (.getfield 65, 3) := by decide +kernel
theorem dX12_alike_71 : decode cX12_alike 71 = .ok (.iload_n 2, 1) := by decide +kernel
theorem dX12_alike_72 : decode cX12_alike 72 = .ok (.iaload, 1) := by decide +kernel
theorem dX12_alike_73 : decode cX12_alike 73 = .ok (.istore 5, 2) := by decide +kernel
theorem dX12_alike_75 : decode cX12_alike 75 = .ok (.iload 5, 2) := by decide +kernel
theorem dX12_alike_77 : decode cX12_alike 77 = .ok (.bipush 48, 2) := by decide +kernel
theorem dX12_alike_79 : decode cX12_alike 79 = .ok (.if_icmp .ge 51, 3) := by decide +kernel
theorem dX12_alike_82 : decode cX12_alike 82 = .ok (.iload 5, 2) := by decide +kernel
theorem dX12_alike_84 : decode cX12_alike 84 = .ok (.aload_n 0, 1) := by decide +kernel
theorem dX12_alike_85 : decode cX12_alike 85 = .ok (.getfield 65, 3) := by decide +kernel
theorem dX12_alike_88 : decode cX12_alike 88 = .ok (.iload_n 2, 1) := by decide +kernel
theorem dX12_alike_89 : decode cX12_alike 89 = .ok (.iaload, 1) := by decide +kernel
theorem dX12_alike_90 : decode cX12_alike 90 = .ok (.if_icmp .eq 22, 3) := by decide +kernel
theorem dX12_alike_93 : decode cX12_alike 93 = .ok (.aload_n 0, 1) := by decide +kernel
theorem dX12_alike_94 : decode cX12_alike 94 = .ok (.iload_n 1, 1) := by decide +kernel
theorem dX12_alike_95 : decode cX12_alike 95 = .ok (.aload_n 0, 1) := by decide +kernel
theorem dX12_alike_96 : decode cX12_alike 96 = .ok (.getfield 65, 3) := by decide +kernel
theorem dX12_alike_99 : decode cX12_alike 99 = .ok (.iload_n 2, 1) := by decide +kernel
theorem dX12_alike_100 : decode cX12_alike 100 = .ok (.iaload, 1) := by decide +kernel
theorem dX12_alike_101 : decode cX12_alike 101 = .ok (.iload 5, 2) := by decide +kernel
theorem dX12_alike_103 : decode cX12_alike 103 = .ok (.invokevirtual 390, 3) := by decide +kernel
theorem dX12_alike_106 : decode cX12_alike 106 = .ok (.ifCond .ne 6, 3) := by decide +kernel
theorem dX12_alike_109 : decode cX12_alike 109 = .ok (.goto 15, 3) := by decide +kernel
theorem dX12_alike_112 : decode cX12_alike 112 = .ok (.iload 4, 2) := by decide +kernel
theorem dX12_alike_114 : decode cX12_alike 114 = .ok (.iload_n 3, 1) := by decide +kernel
theorem dX12_alike_115 : decode cX12_alike 115 = .ok (.if_icmp .ne 6, 3) := by decide +kernel
theorem dX12_alike_118 : decode cX12_alike 118 = .ok (.iload 5, 2) := by decide +kernel
theorem dX12_alike_120 : decode cX12_alike 120 = .ok (.ireturn, 1) := by decide +kernel
theorem dX12_alike_121 : decode cX12_alike 121 = .ok (.iinc 4 1, 3) := by decide +kernel
theorem dX12_alike_124 : decode cX12_alike 124 = .ok (.iinc 5 1, 3) := by decide +kernel
theorem dX12_alike_127 : decode cX12_alike 127 = .ok (.goto (-52), 3) := by decide +kernel
theorem dX12_alike_130 : decode cX12_alike 130 = .ok (.iconst (-1), 1) := by decide +kernel
theorem dX12_alike_131 : decode cX12_alike 131 = .ok (.ireturn, 1) := by decide +kernel
theorem dX12_units_0 : decode cX12_units 0 = .ok (.aload_n 0, 1) := by decide +kernel
theorem dX12_units_1 : decode cX12_units 1 = .ok (.iconst 0, 1) := by decide +kernel
theorem dX12_units_2 : decode cX12_units 2 = .ok (.putfield 1, 3) := by decide +kernel
theorem dX12_units_5 : decode cX12_units 5 = .ok (.iload_n 1, 1) := by decide +kernel
theorem dX12_units_6 : decode cX12_units 6 = .ok (.invokestatic 346, 3) := by decide +kernel
theorem dX12_units_9 : decode cX12_units 9 = .ok (.ifCond .ne 6, 3) := by decide +kernel
theorem dX12_units_12 : decode cX12_units 12 = .ok (.bipush (-2), 2) := by decide +kernel
theorem dX12_units_14 : decode cX12_units 14 = .ok (.ireturn, 1) := by decide +kernel
theorem dX12_units_15 : decode cX12_units 15 = .ok (.iload_n 2, 1) := by decide +kernel
theorem dX12_units_16 : decode cX12_units 16 = .ok (.i2l, 1) := by decide +kernel
theorem dX12_units_17 : decode cX12_units 17 = .ok (.lconst 0, 1) := by decide +kernel
theorem dX12_units_18 : decode cX12_units 18 = .ok (.ldc2_w 405, 3) := by decide +kernel
theorem dX12_units_21 : decode cX12_units 21 = .ok (.invokestatic 86, 3) := by decide +kernel
theorem dX12_units_24 : decode cX12_units 24 = .ok (.ifCond .ne 6, 3) := by decide +kernel
theorem dX12_units_27 : decode cX12_units 27 = .ok (.bipush (-3), 2) := by decide +kernel
theorem dX12_units_29 : decode cX12_units 29 = .ok (.ireturn, 1) := by decide +kernel
theorem dX12_units_30 : decode cX12_units 30 = .ok (.aload_n 0, 1) := by decide +kernel
theorem dX12_units_31 : decode cX12_units 31 = .ok (.iload_n 1, 1) := by decide +kernel
theorem dX12_units_32 : decode cX12_units 32 = .ok (.invokevirtual 369, 3) := by decide +kernel
theorem dX12_units_35 : decode cX12_units 35 = .ok (.ifCond .ne 6, 3) := by decide +kernel
theorem dX12_units_38 : decode cX12_units 38 = .ok (.bipush (-5), 2) := by decide +kernel
theorem dX12_units_40 : decode cX12_units 40 = .ok (.ireturn, 1) := by decide +kernel
theorem dX12_units_41 : decode cX12_units 41 = .ok (.aload_n 0, 1) := by decide +kernel
theorem dX12_units_42 : decode cX12_units 42 = .ok (.iload_n 1, 1) := by decide +kernel
theorem dX12_units_43 : decode cX12_units 43 = .ok (.iconst 0, 1) := by decide +kernel
theorem dX12_units_44 : decode cX12_units 44 = .ok (.invokevirtual 104, 3) := by decide +kernel
theorem dX12_units_47 : decode cX12_units 47 = .ok (.istore_n 3, 1) := by decide +kernel
theorem dX12_units_48 : decode cX12_units 48 = .ok (.aload_n 0, 1) := by decide +kernel
theorem dX12_units_49 : decode cX12_units 49 = .ok (.iload_n 1, 1) := by decide +kernel
theorem dX12_units_50 : decode cX12_units 50 = .ok (.iconst 1, 1) := by decide +kernel
theorem dX12_units_51 : decode cX12_units 51 = .ok (.invokevirtual 104, 3) := by decide +kernel
theorem dX12_units_54 : decode cX12_units 54 = .ok (.istore 4, 2) := by decide +kernel
theorem dX12_units_56 : decode cX12_units 56 = .ok (.aload_n 0, 1) := by decide +kernel
theorem dX12_units_57 : decode cX12_units 57 = .ok (.iload_n 1, 1) := by decide +kernel
theorem dX12_units_58 : decode cX12_units 58 = .ok (.bipush 14, 2) := by decide +kernel
theorem dX12_units_60 : decode cX12_units 60 = .ok (.invokevirtual 104, 3) := by decide +kernel
theorem dX12_units_63 : decode cX12_units 63 = .ok (.istore 5, 2) := by decide +kernel
theorem dX12_units_65 : decode cX12_units 65 = .ok (.aload_n 0, 1) := by decide +kernel
theorem dX12_units_66 : decode cX12_units 66 = .ok (.iload_n 1, 1) := by decide +kernel
theorem dX12_units_67 : decode cX12_units 67 = .ok (.bipush 15, 2) := by decide +kernel
theorem dX12_units_69 : decode cX12_units 69 = .ok (.invokevirtual 104, 3) := by decide +kernel
theorem dX12_units_72 : decode cX12_units 72 = .ok (.istore 6, 2) := by decide +kernel
theorem dX12_units_74 : decode cX12_units 74 = .ok (.aload_n 0, 1) := by decide +kernel
theorem dX12_units_75 : decode cX12_units 75 = .ok (.iload_n 1, 1) := by decide +kernel
theorem dX12_units_76 : decode cX12_units 76 = .ok (.iconst 2, 1) := by decide +kernel
theorem dX12_units_77 : decode cX12_units 77 = .ok (.invokevirtual 104, 3) := by decide +kernel
theorem dX12_units_80 : decode cX12_units 80 = .ok (.istore 7, 2) := by decide +kernel
theorem dX12_units_82 : decode cX12_units 82 = .ok (.iconst 1, 1) := by decide +kernel
theorem dX12_units_83 : decode cX12_units 83 = .ok (.istore 8, 2) := by decide +kernel
theorem dX12_units_85 : decode cX12_units 85 = .ok (.iload 8, 2) := by decide +kernel
theorem dX12_units_87 : decode cX12_units 87 = .ok (.sipush 999, 3) := by decide +kernel
theorem dX12_units_90 : decode cX12_units 90 = .ok (.if_icmp .gt 147, 3) := by decide +kernel
theorem dX12_units_93 : decode cX12_units 93 = .ok (.iconst 0, 1) := by decide +kernel
theorem dX12_units_94 : decode cX12_units 94 = .ok (.istore 9, 2) := by decide +kernel
theorem dX12_units_96 : decode cX12_units 96 = .ok (.iload_n 3, 1) := by decide +kernel
theorem dX12_units_97 : decode cX12_units 97 = .ok (.iconst 1, 1) := by decide +kernel
theorem dX12_units_98 : decode cX12_units 98 = .ok (.if_icmp .ne 47, 3) := by decide +kernel
theorem dX12_units_101 : decode cX12_units 101 = .ok (.iinc 4 1, 3) := by decide +kernel
theorem dX12_units_104 : decode cX12_units 104 = .ok (.iload 4, 2) := by decide +kernel
theorem dX12_units_106 : decode cX12_units 106 = .ok (.bipush 48, 2) := by decide +kernel
theorem dX12_units_108 : decode cX12_units 108 = .ok (.if_icmp .ne 7, 3) := by decide +kernel
theorem dX12_units_111 : decode cX12_units 111 = .ok (.iconst 1, 1) := by decide +kernel
theorem dX12_units_112 : decode cX12_units 112 = .ok (.goto 4, 3) := by decide +kernel
theorem dX12_units_115 : decode cX12_units 115 = .ok (.iconst 0, 1) := by decide +kernel
theorem dX12_units_116 : decode cX12_units 116 = .ok (.istore 9, 2) := by decide +kernel
theorem dX12_units_118 : decode cX12_units 118 = .ok (.iload 9, 2) := by decide +kernel
theorem dX12_units_120 : decode cX12_units 120 = .ok (.ifCond .eq 7, 3) := by decide +kernel
theorem dX12_units_123 : decode cX12_units 123 = .ok (.iconst 2, 1) := by decide +kernel
theorem dX12_units_124 : decode cX12_units 124 = .ok (.goto 4, 3) := by decide +kernel
theorem dX12_units_127 : decode cX12_units 127 = .ok (.iconst 1, 1) := by decide +kernel
theorem dX12_units_128 : decode cX12_units 128 = .ok (.istore_n 3, 1) := by decide +kernel
theorem dX12_units_129 : decode cX12_units 129 = .ok (.iload 9, 2) := by decide +kernel
theorem dX12_units_131 : decode cX12_units 131 = .ok (.ifCond .eq 7, 3) := by decide +kernel
theorem dX12_units_134 : decode cX12_units 134 = .ok (.iconst 1, 1) := by decide +kernel
theorem dX12_units_135 : decode cX12_units 135 = .ok (.goto 5, 3) := by decide +kernel
theorem dX12_units_138 : decode cX12_units 138 = .ok (.iload 7, 2) := by decide +kernel
theorem dX12_units_140 : decode cX12_units 140 = .ok (.istore 7, 2) := by decide +kernel
theorem dX12_units_142 : decode cX12_units 142 = .ok (.goto 62, 3) := by decide +kernel
theorem dX12_units_145 : decode cX12_units 145 = .ok (.iload 5, 2) := by decide +kernel
theorem dX12_units_147 : decode cX12_units 147 = .ok (.ifCond .le 9, 3) := by decide +kernel
theorem dX12_units_150 : decode cX12_units 150 = .ok (.iinc 5 (-1), 3) := by decide +kernel
theorem dX12_units_153 : decode cX12_units 153 = .ok (.goto 51, 3) := by decide +kernel
theorem dX12_units_156 : decode cX12_units 156 = .ok (.iload_n 3, 1) := by decide +kernel
theorem dX12_units_157 : decode cX12_units 157 = .ok (.iconst 3, 1) := by decide +kernel
theorem dX12_units_158 : decode cX12_units 158 = .ok (.if_icmp .ne 6, 3) := by decide +kernel
theorem dX12_units_161 : decode cX12_units 161 = .ok (.iload 8, 2) := by decide +kernel
theorem dX12_units_163 : decode cX12_units 163 = .ok (.ireturn, 1) := by decide +kernel
theorem dX12_units_164 : decode cX12_units 164 = .ok (.iconst 1, 1) := by decide +kernel
theorem dX12_units_165 : decode cX12_units 165 = .ok (.istore 9, 2) := by decide +kernel
theorem dX12_units_167 : decode cX12_units 167 = .ok (.iload 6, 2) := by decide +kernel
theorem dX12_units_169 : decode cX12_units 169 = .ok (.aload_n 0, 1) := by decide +kernel
theorem dX12_units_170 : decode cX12_units 170 = .ok (.getfield 13, 3) := by decide +kernel
theorem dX12_units_173 : decode cX12_units 173 = .ok (.sipush 5341, 3) := by decide +kernel
theorem dX12_units_176 : decode cX12_units 176 = .ok (.iaload, 1) := by decide +kernel
theorem dX12_units_177 : decode cX12_units 177 = .ok (.if_icmp .gt 8, 3) := by decide +kernel
theorem dX12_units_180 : decode cX12_units 180 = .ok (.iconst 3, 1) := by decide +kernel
theorem dX12_units_181 : decode cX12_units 181 = .ok (.istore_n 3, 1) := by decide +kernel
theorem dX12_units_182 : decode cX12_units 182 = .ok (.goto 22, 3) := by decide +kernel
theorem dX12_units_185 : decode cX12_units 185 = .ok (.iload 7, 2) := by decide +kernel
theorem dX12_units_187 : decode cX12_units 187 = .ok (.aload_n 0, 1) := by decide +kernel
theorem dX12_units_188 : decode cX12_units 188 = .ok (.getfield 13, 3) := by decide +kernel
theorem dX12_units_191 : decode cX12_units 191 = .ok (.sipush 5342, 3) := by decide +kernel
theorem dX12_units_194 : decode cX12_units 194 = .ok (.iaload, 1) := by decide +kernel
theorem dX12_units_195 : decode cX12_units 195 = .ok (.if_icmp .lt 6, 3) := by decide +kernel
theorem dX12_units_198 : decode cX12_units 198 = .ok (.iload 8, 2) := by decide +kernel
theorem dX12_units_200 : decode cX12_units 200 = .ok (.ireturn, 1) := by decide +kernel
theorem dX12_units_201 : decode cX12_units 201 = .ok (.iinc 7 1, 3) := by decide +kernel
theorem dX12_units_204 : decode cX12_units 204 = .ok (.iload 9, 2) := by decide +kernel
theorem dX12_units_206 : decode cX12_units 206 = .ok (.ifCond .eq 10, 3) := by decide +kernel
theorem dX12_units_209 : decode cX12_units 209 = .ok (.iload 6, 2) := by decide +kernel
theorem dX12_units_211 : decode cX12_units 211 = .ok (.istore 5, 2) := by decide +kernel
theorem dX12_units_213 : decode cX12_units 213 = .ok (.iconst 0, 1) := by decide +kernel
theorem dX12_units_214 : decode cX12_units 214 = .ok (.istore 6, 2) := by decide +kernel
theorem dX12_units_216 : decode cX12_units 216 = .ok (.iload 6, 2) := by decide +kernel
theorem dX12_units_218 : decode cX12_units 218 = .ok (.iload_n 3, 1) := by decide +kernel
theorem dX12_units_219 : decode cX12_units 219 = .ok (.iconst 3, 1) := by decide +kernel
theorem dX12_units_220 : decode cX12_units 220 = .ok (.if_icmp .ne 7, 3) := by decide +kernel
theorem dX12_units_223 : decode cX12_units 223 = .ok (.iconst 0, 1) := by decide +kernel
theorem dX12_units_224 : decode cX12_units 224 = .ok (.goto 4, 3) := by decide +kernel
theorem dX12_units_227 : decode cX12_units 227 = .ok (.iload_n 2, 1) := by decide +kernel
theorem dX12_units_228 : decode cX12_units 228 = .ok (.iadd, 1) := by decide +kernel
theorem dX12_units_229 : decode cX12_units 229 = .ok (.istore 6, 2) := by decide +kernel
theorem dX12_units_231 : decode cX12_units 231 = .ok (.iinc 8 1, 3) := by decide +kernel
theorem dX12_units_234 : decode cX12_units 234 = .ok (.goto (-149), 3) := by decide +kernel
theorem dX12_units_237 : decode cX12_units 237 = .ok (.iconst (-1), 1) := by decide +kernel
theorem dX12_units_238 : decode cX12_units 238 = .ok (.ireturn, 1) := by decide +kernel
theorem dX12_free_0 : decode cX12_free 0 = .ok (.aload_n 0, 1) := by decide +kernel
theorem dX12_free_1 : decode cX12_free 1 = .ok (.iconst 0, 1) := by decide +kernel
theorem dX12_free_2 : decode cX12_free 2 = .ok (.putfield 1, 3) := by decide +kernel
theorem dX12_free_5 : decode cX12_free 5 = .ok (.iconst 0, 1) := by decide +kernel
theorem dX12_free_6 : decode cX12_free 6 = .ok (.istore_n 1, 1) := by decide +kernel
theorem dX12_free_7 : decode cX12_free 7 = .ok (.iload_n 1, 1) := by decide +kernel
theorem dX12_free_8 : decode cX12_free 8 = .ok (.bipush 48, 2) := by decide +kernel
theorem dX12_free_10 : decode cX12_free 10 = .ok (.if_icmp .ge 77, 3) := by decide +kernel
theorem dX12_free_13 : decode cX12_free 13 = .ok (.aload_n 0, 1) := by decide +kernel
theorem dX12_free_14 : decode cX12_free 14 = .ok (.getfield 13, 3) := by decide +kernel
theorem dX12_free_17 : decode cX12_free 17 = .ok (.aload_n 0, 1) := by decide +kernel
theorem dX12_free_18 : decode cX12_free 18 = .ok (.iload_n 1, 1) := by decide +kernel
theorem dX12_free_19 : decode cX12_free 19 = .ok (.invokevirtual 171, 3) := by decide +kernel
theorem dX12_free_22 : decode cX12_free 22 = .ok (.iconst 1, 1) := by decide +kernel
theorem dX12_free_23 : decode cX12_free 23 = .ok (.iadd, 1) := by decide +kernel
theorem dX12_free_24 : decode cX12_free 24 = .ok (.iaload, 1) := by decide +kernel
theorem dX12_free_25 : decode cX12_free 25 = .ok (.ifCond .ne 7, 3) := by decide +kernel
theorem dX12_free_28 : decode cX12_free 28 = .ok (.iconst 1, 1) := by decide +kernel
theorem dX12_free_29 : decode cX12_free 29 = .ok (.goto 4, 3) := by decide +kernel
theorem dX12_free_32 : decode cX12_free 32 = .ok (.iconst 0, 1) := by decide +kernel
theorem dX12_free_33 : decode cX12_free 33 = .ok (.istore_n 2, 1) := by decide +kernel
theorem dX12_free_34 : decode cX12_free 34 = .ok (.iconst 0, 1) := by decide +kernel
theorem dX12_free_35 : decode cX12_free 35 = .ok (.istore_n 3, 1) := by decide +kernel
theorem dX12_free_36 : decode cX12_free 36 = .ok (.iload_n 3, 1) := by decide +kernel
theorem dX12_free_37 : decode cX12_free 37 = .ok (.iconst 4, 1) := by decide +kernel
theorem dX12_free_38 : decode cX12_free 38 = .ok (.if_icmp .ge 37, 3) := by decide +kernel
theorem dX12_free_41 : decode cX12_free 41 = .ok (.iload_n 2, 1) := by decide +kernel
theorem dX12_free_42 : decode cX12_free 42 = .ok (.ifCond .eq 33, 3) := by decide +kernel
theorem dX12_free_45 : decode cX12_free 45 = .ok (.aload_n 0, 1) := by decide +kernel
theorem dX12_free_46 : decode cX12_free 46 = .ok (.iload_n 3, 1) := by decide +kernel
theorem dX12_free_47 : decode cX12_free 47 = .ok (.invokevirtual 149, 3) := by decide +kernel
theorem dX12_free_50 : decode cX12_free 50 = .ok (.ifCond .eq 13, 3) := by decide +kernel
theorem dX12_free_53 : decode cX12_free 53 = .ok (.aload_n 0, 1) := by decide +kernel
theorem dX12_free_54 : decode cX12_free 54 = .ok (.iload_n 3, 1) := by decide +kernel
theorem dX12_free_55 : decode cX12_free 55 = .ok (.iload_n 1, 1) := by decide +kernel
theorem dX12_free_56 : decode cX12_free 56 = .ok (.invokevirtual 98, 3) := by decide +kernel
theorem dX12_free_59 : decode cX12_free 59 = .ok (.iconst (-1), 1) := by decide +kernel
theorem dX12_free_60 : decode cX12_free 60 = .ok (.if_icmp .ne 7, 3) := by decide +kernel
theorem dX12_free_63 : decode cX12_free 63 = .ok (.iconst 1, 1) := by decide +kernel
theorem dX12_free_64 : decode cX12_free 64 = .ok (.goto 4, 3) := by decide +kernel
theorem dX12_free_67 : decode cX12_free 67 = .ok (.iconst 0, 1) := by decide +kernel
theorem dX12_free_68 : decode cX12_free 68 = .ok (.istore_n 2, 1) := by decide +kernel
theorem dX12_free_69 : decode cX12_free 69 = .ok (.iinc 3 1, 3) := by decide +kernel
theorem dX12_free_72 : decode cX12_free 72 = .ok (.goto (-36), 3) := by decide +kernel
theorem dX12_free_75 : decode cX12_free 75 = .ok (.iload_n 2, 1) := by decide +kernel
theorem dX12_free_76 : decode cX12_free 76 = .ok (.ifCond .eq 5, 3) := by decide +kernel
theorem dX12_free_79 : decode cX12_free 79 = .ok (.iload_n 1, 1) := by decide +kernel
theorem dX12_free_80 : decode cX12_free 80 = .ok (.ireturn, 1) := by decide +kernel
theorem dX12_free_81 : decode cX12_free 81 = .ok (.iinc 1 1, 3) := by decide +kernel
theorem dX12_free_84 : decode cX12_free 84 = .ok (.goto (-77), 3) := by decide +kernel
theorem dX12_free_87 : decode cX12_free 87 = .ok (.iconst (-1), 1) := by decide +kernel
theorem dX12_free_88 : decode cX12_free 88 = .ok (.ireturn, 1) := by decide +kernel
theorem dX12_undo_0 : decode cX12_undo 0 = .ok (.aload_n 0, 1) := by decide +kernel
theorem dX12_undo_1 : decode cX12_undo 1 = .ok (.iconst 0, 1) := by decide +kernel
theorem dX12_undo_2 : decode cX12_undo 2 = .ok (.putfield 1, 3) := by decide +kernel
theorem dX12_undo_5 : decode cX12_undo 5 = .ok (.iload_n 1, 1) := by decide +kernel
theorem dX12_undo_6 : decode cX12_undo 6 = .ok (.i2l, 1) := by decide +kernel
theorem dX12_undo_7 : decode cX12_undo 7 = .ok (.lconst 1, 1) := by decide +kernel
theorem dX12_undo_8 : decode cX12_undo 8 = .ok (.ldc2_w 407, 3) := by decide +kernel
theorem dX12_undo_11 : decode cX12_undo 11 = .ok (.invokestatic 86, 3) := by decide +kernel
theorem dX12_undo_14 : decode cX12_undo 14 = .ok (.ifCond .eq 11, 3) := by decide +kernel
theorem dX12_undo_17 : decode cX12_undo 17 = .ok (.iload_n 1, 1) := by decide +kernel
theorem dX12_undo_18 : decode cX12_undo 18 = .ok (.aload_n 0, 1) := by decide +kernel
theorem dX12_undo_19 : decode cX12_undo 19 = .ok (.getfield 72, 3) := by decide +kernel
theorem dX12_undo_22 : decode cX12_undo 22 = .ok (.if_icmp .le 6, 3) := by decide +kernel
theorem dX12_undo_25 : decode cX12_undo 25 = .ok (.bipush (-3), 2) := by decide +kernel
theorem dX12_undo_27 : decode cX12_undo 27 = .ok (.ireturn, 1) := by decide +kernel
theorem dX12_undo_28 : decode cX12_undo 28 = .ok (.aload_n 0, 1) := by decide +kernel
theorem dX12_undo_29 : decode cX12_undo 29 = .ok (.dup, 1) := by decide +kernel
theorem dX12_undo_30 : decode cX12_undo 30 = .ok (.getfield 72, 3) := by decide +kernel
theorem dX12_undo_33 : decode cX12_undo 33 = .ok (.iload_n 1, 1) := by decide +kernel
theorem dX12_undo_34 : decode cX12_undo 34 = .ok (.isub, 1) := by decide +kernel
theorem dX12_undo_35 : decode cX12_undo 35 = .ok (.putfield 72, 3) := by decide +kernel
theorem dX12_undo_38 : decode cX12_undo 38 = .ok (.aload_n 0, 1) := by decide +kernel
theorem dX12_undo_39 : decode cX12_undo 39 = .ok (.getfield 18, 3) := by decide +kernel
theorem dX12_undo_42 : decode cX12_undo 42 = .ok (.sipush 5343, 3) := by decide +kernel
theorem dX12_undo_45 : decode cX12_undo 45 = .ok (.aload_n 0, 1) := by decide +kernel
theorem dX12_undo_46 : decode cX12_undo 46 = .ok (.getfield 72, 3) := by decide +kernel
theorem dX12_undo_49 : decode cX12_undo 49 = .ok (.imul, 1) := by decide +kernel
theorem dX12_undo_50 : decode cX12_undo 50 = .ok (.aload_n 0, 1) := by decide +kernel
theorem dX12_undo_51 : decode cX12_undo 51 = .ok (.getfield 13, 3) := by decide +kernel
theorem dX12_undo_54 : decode cX12_undo 54 = .ok (.iconst 0, 1) := by decide +kernel
theorem dX12_undo_55 : decode cX12_undo 55 = .ok (.sipush 5343, 3) := by decide +kernel
theorem dX12_undo_58 : decode cX12_undo 58 = .ok (.invokestatic 76, 3) := by decide +kernel
theorem dX12_undo_61 : decode cX12_undo 61 = .ok (.aload_n 0, 1) := by decide +kernel
theorem dX12_undo_62 : decode cX12_undo 62 = .ok (.getfield 72, 3) := by decide +kernel
theorem dX12_undo_65 : decode cX12_undo 65 = .ok (.ireturn, 1) := by decide +kernel
theorem dX12_image_0 : decode cX12_image 0 = .ok (.aload_n 0, 1) := by decide +kernel
theorem dX12_image_1 : decode cX12_image 1 = .ok (.iconst 0, 1) := by decide +kernel
theorem dX12_image_2 : decode cX12_image 2 = .ok (.putfield 1, 3) := by decide +kernel
theorem dX12_image_5 : decode cX12_image 5 = .ok (.iload_n 1, 1) := by decide +kernel
theorem dX12_image_6 : decode cX12_image 6 = .ok (.i2l, 1) := by decide +kernel
theorem dX12_image_7 : decode cX12_image 7 = .ok (.lconst 0, 1) := by decide +kernel
theorem dX12_image_8 : decode cX12_image 8 = .ok (.lconst 1, 1) := by decide +kernel
theorem dX12_image_9 : decode cX12_image 9 = .ok (.invokestatic 86, 3) := by decide +kernel
theorem dX12_image_12 : decode cX12_image 12 = .ok (.ifCond .ne 6, 3) := by decide +kernel
theorem dX12_image_15 : decode cX12_image 15 = .ok (.bipush (-2), 2) := by decide +kernel
theorem dX12_image_17 : decode cX12_image 17 = .ok (.ireturn, 1) := by decide +kernel
theorem dX12_image_18 : decode cX12_image 18 = .ok (.aload_n 0, 1) := by decide +kernel
theorem dX12_image_19 : decode cX12_image 19 = .ok (.getfield 13, 3) := by decide +kernel
theorem dX12_image_22 : decode cX12_image 22 = .ok (.iconst 0, 1) := by decide +kernel
theorem dX12_image_23 : decode cX12_image 23 = .ok (.aload_n 0, 1) := by decide +kernel
theorem dX12_image_24 : decode cX12_image 24 = .ok (.getfield 13, 3) := by decide +kernel
theorem dX12_image_27 : decode cX12_image 27 = .ok (.sipush 5343, 3) := by decide +kernel
theorem dX12_image_30 : decode cX12_image 30 = .ok (.iload_n 1, 1) := by decide +kernel
theorem dX12_image_31 : decode cX12_image 31 = .ok (.iconst 1, 1) := by decide +kernel
theorem dX12_image_32 : decode cX12_image 32 = .ok (.iadd, 1) := by decide +kernel
theorem dX12_image_33 : decode cX12_image 33 = .ok (.imul, 1) := by decide +kernel
theorem dX12_image_34 : decode cX12_image 34 = .ok (.sipush 5343, 3) := by decide +kernel
theorem dX12_image_37 : decode cX12_image 37 = .ok (.invokestatic 76, 3) := by decide +kernel
theorem dX12_image_40 : decode cX12_image 40 = .ok (.aload_n 0, 1) := by decide +kernel
theorem dX12_image_41 : decode cX12_image 41 = .ok (.getfield 21, 3) := by decide +kernel
theorem dX12_image_44 : decode cX12_image 44 = .ok (.iload_n 1, 1) := by decide +kernel
theorem dX12_image_45 : decode cX12_image 45 = .ok (.iconst 1, 1) := by decide +kernel
theorem dX12_image_46 : decode cX12_image 46 = .ok (.bastore, 1) := by decide +kernel
theorem dX12_image_47 : decode cX12_image 47 = .ok (.iconst 0, 1) := by decide +kernel
theorem dX12_image_48 : decode cX12_image 48 = .ok (.ireturn, 1) := by decide +kernel
theorem dX12_restore_0 : decode cX12_restore 0 = .ok (.aload_n 0, 1) := by decide +kernel
theorem dX12_restore_1 : decode cX12_restore 1 = .ok (.iconst 0, 1) := by decide +kernel
theorem dX12_restore_2 : decode cX12_restore 2 = .ok (.putfield 1, 3) := by decide +kernel
theorem dX12_restore_5 : decode cX12_restore 5 = .ok (.iload_n 1, 1) := by decide +kernel
theorem dX12_restore_6 : decode cX12_restore 6 = .ok (.i2l, 1) := by decide +kernel
theorem dX12_restore_7 : decode cX12_restore 7 = .ok (.lconst 0, 1) := by decide +kernel
theorem dX12_restore_8 : decode cX12_restore 8 = .ok (.lconst 1, 1) := by decide +kernel
theorem dX12_restore_9 : decode cX12_restore 9 = .ok (.invokestatic 86, 3) := by decide +kernel
theorem dX12_restore_12 : decode cX12_restore 12 = .ok (.ifCond .ne 6, 3) := by decide +kernel
theorem dX12_restore_15 : decode cX12_restore 15 = .ok (.bipush (-2), 2) := by decide +kernel
theorem dX12_restore_17 : decode cX12_restore 17 = .ok (.ireturn, 1) := by decide +kernel
theorem dX12_restore_18 : decode cX12_restore 18 = .ok (.aload_n 0, 1) := by decide +kernel
theorem dX12_restore_19 : decode cX12_restore 19 = .ok (.getfield 21, 3) := by decide +kernel
theorem dX12_restore_22 : decode cX12_restore 22 = .ok (.iload_n 1, 1) := by decide +kernel
theorem dX12_restore_23 : decode cX12_restore 23 = .ok (.baload, 1) := by decide +kernel
theorem dX12_restore_24 : decode cX12_restore 24 = .ok (.ifCond .ne 6, 3) := by decide +kernel
theorem dX12_restore_27 : decode cX12_restore 27 = .ok (.bipush (-6), 2) := by decide +kernel
theorem dX12_restore_29 : decode cX12_restore 29 = .ok (.ireturn, 1) := by decide +kernel
theorem dX12_restore_30 : decode cX12_restore 30 = .ok (.aload_n 0, 1) := by decide +kernel
theorem dX12_restore_31 : decode cX12_restore 31 = .ok (.getfield 13, 3) := by decide +kernel
theorem dX12_restore_34 : decode cX12_restore 34 = .ok (.sipush 5343, 3) := by decide +kernel
theorem dX12_restore_37 : decode cX12_restore 37 = .ok (.iload_n 1, 1) := by decide +kernel
theorem dX12_restore_38 : decode cX12_restore 38 = .ok (.iconst 1, 1) := by decide +kernel
theorem dX12_restore_39 : decode cX12_restore 39 = .ok (.iadd, 1) := by decide +kernel
theorem dX12_restore_40 : decode cX12_restore 40 = .ok (.imul, 1) := by decide +kernel
theorem dX12_restore_41 : decode cX12_restore 41 = .ok (.aload_n 0, 1) := by decide +kernel
theorem dX12_restore_42 : decode cX12_restore 42 = .ok (.getfield 13, 3) := by decide +kernel
theorem dX12_restore_45 : decode cX12_restore 45 = .ok (.iconst 0, 1) := by decide +kernel
theorem dX12_restore_46 : decode cX12_restore 46 = .ok (.sipush 5343, 3) := by decide +kernel
theorem dX12_restore_49 : decode cX12_restore 49 = .ok (.invokestatic 76, 3) := by decide +kernel
theorem dX12_restore_52 : decode cX12_restore 52 = .ok (.aload_n 0, 1) := by decide +kernel
theorem dX12_restore_53 : decode cX12_restore 53 = .ok (.iconst 0, 1) := by decide +kernel
theorem dX12_restore_54 : decode cX12_restore 54 = .ok (.putfield 72, 3) := by decide +kernel
theorem dX12_restore_57 : decode cX12_restore 57 = .ok (.iconst 0, 1) := by decide +kernel
theorem dX12_restore_58 : decode cX12_restore 58 = .ok (.ireturn, 1) := by decide +kernel
theorem dX12_count_0 : decode cX12_count 0 = .ok (.aload_n 0, 1) := by decide +kernel
theorem dX12_count_1 : decode cX12_count 1 = .ok (.iconst 0, 1) := by decide +kernel
theorem dX12_count_2 : decode cX12_count 2 = .ok (.putfield 1, 3) := by decide +kernel
theorem dX12_count_5 : decode cX12_count 5 = .ok (.iload_n 1, 1) := by decide +kernel
theorem dX12_count_6 : decode cX12_count 6 = .ok (.i2l, 1) := by decide +kernel
theorem dX12_count_7 : decode cX12_count 7 = .ok (.ldc2_w 409, 3) := by decide +kernel
theorem dX12_count_10 : decode cX12_count 10 = .ok (.ldc2_w 411, 3) := by decide +kernel
theorem dX12_count_13 : decode cX12_count 13 = .ok (.invokestatic 86, 3) := by decide +kernel
theorem dX12_count_16 : decode cX12_count 16 = .ok (.ifCond .eq 13, 3) := by decide +kernel
theorem dX12_count_19 : decode cX12_count 19 = .ok (.aload_n 0, 1) := by decide +kernel
theorem dX12_count_20 : decode cX12_count 20 = .ok (.iload_n 1, 1) := by decide +kernel
theorem dX12_count_21 : decode cX12_count 21 = .ok (.bipush 10, 2) := by decide +kernel
theorem dX12_count_23 : decode cX12_count 23 = .ok (.isub, 1) := by decide +kernel
theorem dX12_count_24 : decode cX12_count 24 = .ok (.iconst 2, 1) := by decide +kernel
theorem dX12_count_25 : decode cX12_count 25 = .ok (.invokevirtual 94, 3) := by decide +kernel
theorem dX12_count_28 : decode cX12_count 28 = .ok (.ireturn, 1) := by decide +kernel
theorem dX12_count_29 : decode cX12_count 29 = .ok (.iload_n 1, 1) := by decide +kernel
theorem dX12_count_30 : decode cX12_count 30 = .ok (.i2l, 1) := by decide +kernel
theorem dX12_count_31 : decode cX12_count 31 = .ok (.ldc2_w 375, 3) := by decide +kernel
theorem dX12_count_34 : decode cX12_count 34 = .ok (.ldc2_w 413, 3) := by decide +kernel
theorem dX12_count_37 : decode cX12_count 37 = .ok (.invokestatic 86, 3) := by decide +kernel
theorem dX12_count_40 : decode cX12_count 40 = .ok (.ifCond .eq 28, 3) := by decide +kernel
theorem dX12_count_43 : decode cX12_count 43 = .ok (.aload_n 0, 1) := by decide +kernel
theorem dX12_count_44 : decode cX12_count 44 = .ok (.iload_n 1, 1) := by decide +kernel
theorem dX12_count_45 : decode cX12_count 45 = .ok (.bipush 20, 2) := by decide +kernel
theorem dX12_count_47 : decode cX12_count 47 = .ok (.isub, 1) := by decide +kernel
theorem dX12_count_48 : decode cX12_count 48 = .ok (.invokevirtual 149, 3) := by decide +kernel
theorem dX12_count_51 : decode cX12_count 51 = .ok (.ifCond .eq 15, 3) := by decide +kernel
theorem dX12_count_54 : decode cX12_count 54 = .ok (.aload_n 0, 1) := by decide +kernel
theorem dX12_count_55 : decode cX12_count 55 = .ok (.iload_n 1, 1) := by decide +kernel
theorem dX12_count_56 : decode cX12_count 56 = .ok (.bipush 20, 2) := by decide +kernel
theorem dX12_count_58 : decode cX12_count 58 = .ok (.isub, 1) := by decide +kernel
theorem dX12_count_59 : decode cX12_count 59 = .ok (.iconst 1, 1) := by decide +kernel
theorem dX12_count_60 : decode cX12_count 60 = .ok (.invokevirtual 94, 3) := by decide +kernel
theorem dX12_count_63 : decode cX12_count 63 = .ok (.goto 4, 3) := by decide +kernel
theorem dX12_count_66 : decode cX12_count 66 = .ok (.iconst (-1), 1) := by decide +kernel
theorem dX12_count_67 : decode cX12_count 67 = .ok (.ireturn, 1) := by decide +kernel
theorem dX12_count_68 : decode cX12_count 68 = .ok (.iconst 0, 1) := by decide +kernel
theorem dX12_count_69 : decode cX12_count 69 = .ok (.istore_n 2, 1) := by decide +kernel
theorem dX12_count_70 : decode cX12_count 70 = .ok (.iload_n 1, 1) := by decide +kernel
theorem dX12_count_71 : decode cX12_count 71 = .ok (.tableswitch 166 0 8 #[49, 54, 63, 96, 125, 138, 143, 148, 157], 49) := by decide +kernel
theorem dX12_count_120 : decode cX12_count 120 = .ok (.aload_n 0, 1) := by decide +kernel
theorem dX12_count_121 : decode cX12_count 121 = .ok (.invokevirtual 334, 3) := by decide +kernel
theorem dX12_count_124 : decode cX12_count 124 = .ok (.ireturn, 1) := by decide +kernel
theorem dX12_count_125 : decode cX12_count 125 = .ok (.aload_n 0, 1) := by decide +kernel
theorem dX12_count_126 : decode cX12_count 126 = .ok (.getfield 13, 3) := by decide +kernel
theorem dX12_count_129 : decode cX12_count 129 = .ok (.sipush 5340, 3) := by decide +kernel
theorem dX12_count_132 : decode cX12_count 132 = .ok (.iaload, 1) := by decide +kernel
theorem dX12_count_133 : decode cX12_count 133 = .ok (.ireturn, 1) := by decide +kernel
theorem dX12_count_134 : decode cX12_count 134 = .ok (.iconst 0, 1) := by decide +kernel
theorem dX12_count_135 : decode cX12_count 135 = .ok (.istore_n 3, 1) := by decide +kernel
theorem dX12_count_136 : decode cX12_count 136 = .ok (.iload_n 3, 1) := by decide +kernel
theorem dX12_count_137 : decode cX12_count 137 = .ok (.iconst 4, 1) := by decide +kernel
theorem dX12_count_138 : decode cX12_count 138 = .ok (.if_icmp .ge 27, 3) := by decide +kernel
theorem dX12_count_141 : decode cX12_count 141 = .ok (.iload_n 2, 1) := by decide +kernel
theorem dX12_count_142 : decode cX12_count 142 = .ok (.aload_n 0, 1) := by decide +kernel
theorem dX12_count_143 : decode cX12_count 143 = .ok (.iload_n 3, 1) := by decide +kernel
theorem dX12_count_144 : decode cX12_count 144 = .ok (.invokevirtual 149, 3) := by decide +kernel
theorem dX12_count_147 : decode cX12_count 147 = .ok (.ifCond .eq 9, 3) := by decide +kernel
theorem dX12_count_150 : decode cX12_count 150 = .ok (.iconst 1, 1) := by decide +kernel
theorem dX12_count_151 : decode cX12_count 151 = .ok (.iload_n 3, 1) := by decide +kernel
theorem dX12_count_152 : decode cX12_count 152 = .ok (.ishl, 1) := by decide +kernel
theorem dX12_count_153 : decode cX12_count 153 = .ok (.goto 4, 3) := by decide +kernel
theorem dX12_count_156 : decode cX12_count 156 = .ok (.iconst 0, 1) := by decide +kernel
theorem dX12_count_157 : decode cX12_count 157 = .ok (.ior, 1) := by decide +kernel
theorem dX12_count_158 : decode cX12_count 158 = .ok (.istore_n 2, 1) := by decide +kernel
theorem dX12_count_159 : decode cX12_count 159 = .ok (.iinc 3 1, 3) := by decide +kernel
theorem dX12_count_162 : decode cX12_count 162 = .ok (.goto (-26), 3) := by decide +kernel
theorem dX12_count_165 : decode cX12_count 165 = .ok (.iload_n 2, 1) := by decide +kernel
theorem dX12_count_166 : decode cX12_count 166 = .ok (.ireturn, 1) := by decide +kernel
theorem dX12_count_167 : decode cX12_count 167 = .ok (.iconst 0, 1) := by decide +kernel
theorem dX12_count_168 : decode cX12_count 168 = .ok (.istore_n 3, 1) := by decide +kernel
theorem dX12_count_169 : decode cX12_count 169 = .ok (.iload_n 3, 1) := by decide +kernel
theorem dX12_count_170 : decode cX12_count 170 = .ok (.bipush 48, 2) := by decide +kernel
theorem dX12_count_172 : decode cX12_count 172 = .ok (.if_icmp .ge 22, 3) := by decide +kernel
theorem dX12_count_175 : decode cX12_count 175 = .ok (.iload_n 2, 1) := by decide +kernel
theorem dX12_count_176 : decode cX12_count 176 = .ok (.aload_n 0, 1) := by decide +kernel
theorem dX12_count_177 : decode cX12_count 177 = .ok (.getfield 13, 3) := by decide +kernel
theorem dX12_count_180 : decode cX12_count 180 = .ok (.sipush 1920, 3) := by decide +kernel
theorem dX12_count_183 : decode cX12_count 183 = .ok (.iload_n 3, 1) := by decide +kernel
theorem dX12_count_184 : decode cX12_count 184 = .ok (.iadd, 1) := by decide +kernel
theorem dX12_count_185 : decode cX12_count 185 = .ok (.iaload, 1) := by decide +kernel
theorem dX12_count_186 : decode cX12_count 186 = .ok (.iadd, 1) := by decide +kernel
theorem dX12_count_187 : decode cX12_count 187 = .ok (.istore_n 2, 1) := by decide +kernel
theorem dX12_count_188 : decode cX12_count 188 = .ok (.iinc 3 1, 3) := by decide +kernel
theorem dX12_count_191 : decode cX12_count 191 = .ok (.goto (-22), 3) := by decide +kernel
theorem dX12_count_194 : decode cX12_count 194 = .ok (.iload_n 2, 1) := by decide +kernel
theorem dX12_count_195 : decode cX12_count 195 = .ok (.ireturn, 1) := by decide +kernel
theorem dX12_count_196 : decode cX12_count 196 = .ok (.aload_n 0, 1) := by decide +kernel
theorem dX12_count_197 : decode cX12_count 197 = .ok (.invokevirtual 178, 3) := by decide +kernel
theorem dX12_count_200 : decode cX12_count 200 = .ok (.ifCond .eq 7, 3) := by decide +kernel
theorem dX12_count_203 : decode cX12_count 203 = .ok (.iconst 1, 1) := by decide +kernel
theorem dX12_count_204 : decode cX12_count 204 = .ok (.goto 4, 3) := by decide +kernel
theorem dX12_count_207 : decode cX12_count 207 = .ok (.iconst 0, 1) := by decide +kernel
theorem dX12_count_208 : decode cX12_count 208 = .ok (.ireturn, 1) := by decide +kernel
theorem dX12_count_209 : decode cX12_count 209 = .ok (.aload_n 0, 1) := by decide +kernel
theorem dX12_count_210 : decode cX12_count 210 = .ok (.getfield 210, 3) := by decide +kernel
theorem dX12_count_213 : decode cX12_count 213 = .ok (.ireturn, 1) := by decide +kernel
theorem dX12_count_214 : decode cX12_count 214 = .ok (.aload_n 0, 1) := by decide +kernel
theorem dX12_count_215 : decode cX12_count 215 = .ok (.getfield 72, 3) := by decide +kernel
theorem dX12_count_218 : decode cX12_count 218 = .ok (.ireturn, 1) := by decide +kernel
theorem dX12_count_219 : decode cX12_count 219 = .ok (.aload_n 0, 1) := by decide +kernel
theorem dX12_count_220 : decode cX12_count 220 = .ok (.getfield 13, 3) := by decide +kernel
theorem dX12_count_223 : decode cX12_count 223 = .ok (.sipush 5341, 3) := by decide +kernel
theorem dX12_count_226 : decode cX12_count 226 = .ok (.iaload, 1) := by decide +kernel
theorem dX12_count_227 : decode cX12_count 227 = .ok (.ireturn, 1) := by decide +kernel
theorem dX12_count_228 : decode cX12_count 228 = .ok (.aload_n 0, 1) := by decide +kernel
theorem dX12_count_229 : decode cX12_count 229 = .ok (.getfield 13, 3) := by decide +kernel
theorem dX12_count_232 : decode cX12_count 232 = .ok (.sipush 5342, 3) := by decide +kernel
theorem dX12_count_235 : decode cX12_count 235 = .ok (.iaload, 1) := by decide +kernel
theorem dX12_count_236 : decode cX12_count 236 = .ok (.ireturn, 1) := by decide +kernel
theorem dX12_count_237 : decode cX12_count 237 = .ok (.iconst (-1), 1) := by decide +kernel
theorem dX12_count_238 : decode cX12_count 238 = .ok (.ireturn, 1) := by decide +kernel
theorem dL_law_0 : decode cL_law 0 = .ok (.new 7, 3) := by decide +kernel
theorem dL_law_3 : decode cL_law 3 = .ok (.dup, 1) := by decide +kernel
theorem dL_law_4 : decode cL_law 4 = .ok (.invokespecial 9, 3) := by decide +kernel
theorem dL_law_7 : decode cL_law 7 = .ok (.astore_n 1, 1) := by decide +kernel
theorem dL_law_8 : decode cL_law 8 = .ok (.new 10, 3) := by decide +kernel
theorem dL_law_11 : decode cL_law 11 = .ok (.dup, 1) := by decide +kernel
theorem dL_law_12 : decode cL_law 12 = .ok (.invokespecial 12, 3) := by decide +kernel
theorem dL_law_15 : decode cL_law 15 = .ok (.astore_n 2, 1) := by decide +kernel
theorem dL_law_16 : decode cL_law 16 = .ok (.iconst 0, 1) := by decide +kernel
theorem dL_law_17 : decode cL_law 17 = .ok (.istore_n 3, 1) := by decide +kernel
theorem dL_law_18 : decode cL_law 18 = .ok (.iload_n 3, 1) := by decide +kernel
theorem dL_law_19 : decode cL_law 19 = .ok (.aload_n 0, 1) := by decide +kernel
theorem dL_law_20 : decode cL_law 20 = .ok (.arraylength, 1) := by decide +kernel
theorem dL_law_21 : decode cL_law 21 = .ok (.bipush 6, 2) := by decide +kernel
theorem dL_law_23 : decode cL_law 23 = .ok (.isub, 1) := by decide +kernel
theorem dL_law_24 : decode cL_law 24 = .ok (.if_icmp .gt 1228, 3) := by decide +kernel
theorem dL_law_27 : decode cL_law 27 = .ok (.aload_n 0, 1) := by decide +kernel
theorem dL_law_28 : decode cL_law 28 = .ok (.iload_n 3, 1) := by decide +kernel
theorem dL_law_29 : decode cL_law 29 = .ok (.iaload, 1) := by decide +kernel
theorem dL_law_30 : decode cL_law 30 = .ok (.bipush 63, 2) := by decide +kernel
theorem dL_law_32 : decode cL_law 32 = .ok (.iand, 1) := by decide +kernel
theorem dL_law_33 : decode cL_law 33 = .ok (.tableswitch 1213 0 33 #[151, 174, 237, 270, 293, 306, 329, 372, 385, 448, 481, 504, 537, 560, 583, 616, 649, 692, 745, 798, 851, 884, 907, 930, 953, 986, 1009, 1032, 1075, 1108, 1121, 1144, 1167, 1190], 151) := by decide +kernel
theorem dL_law_184 : decode cL_law 184 = .ok (.aload_n 1, 1) := by decide +kernel
theorem dL_law_185 : decode cL_law 185 = .ok (.aload_n 0, 1) := by decide +kernel
theorem dL_law_186 : decode cL_law 186 = .ok (.iload_n 3, 1) := by decide +kernel
theorem dL_law_187 : decode cL_law 187 = .ok (.iconst 1, 1) := by decide +kernel
theorem dL_law_188 : decode cL_law 188 = .ok (.iadd, 1) := by decide +kernel
theorem dL_law_189 : decode cL_law 189 = .ok (.iaload, 1) := by decide +kernel
theorem dL_law_190 : decode cL_law 190 = .ok (.invokevirtual 13, 3) := by decide +kernel
theorem dL_law_193 : decode cL_law 193 = .ok (.aload_n 2, 1) := by decide +kernel
theorem dL_law_194 : decode cL_law 194 = .ok (.aload_n 0, 1) := by decide +kernel
theorem dL_law_195 : decode cL_law 195 = .ok (.iload_n 3, 1) := by decide +kernel
theorem dL_law_196 : decode cL_law 196 = .ok (.iconst 1, 1) := by decide +kernel
theorem dL_law_197 : decode cL_law 197 = .ok (.iadd, 1) := by decide +kernel
theorem dL_law_198 : decode cL_law 198 = .ok (.iaload, 1) := by decide +kernel
theorem dL_law_199 : decode cL_law 199 = .ok (.invokevirtual 17, 3) := by decide +kernel
theorem dL_law_202 : decode cL_law 202 = .ok (.if_icmp .eq 1044, 3) := by decide +kernel
theorem dL_law_205 : decode cL_law 205 = .ok (.iconst 0, 1) := by decide +kernel
theorem dL_law_206 : decode cL_law 206 = .ok (.ireturn, 1) := by decide +kernel
theorem dL_law_207 : decode cL_law 207 = .ok (.aload_n 1, 1) := by decide +kernel
theorem dL_law_208 : decode cL_law 208 = .ok (.aload_n 0, 1) := by decide +kernel
theorem dL_law_209 : decode cL_law 209 = .ok (.iload_n 3, 1) := by decide +kernel
theorem dL_law_210 : decode cL_law 210 = .ok (.iconst 1, 1) := by decide +kernel
theorem dL_law_211 : decode cL_law 211 = .ok (.iadd, 1) := by decide +kernel
theorem dL_law_212 : decode cL_law 212 = .ok (.iaload, 1) := by decide +kernel
theorem dL_law_213 : decode cL_law 213 = .ok (.aload_n 0, 1) := by decide +kernel
theorem dL_law_214 : decode cL_law 214 = .ok (.iload_n 3, 1) := by decide +kernel
theorem dL_law_215 : decode cL_law 215 = .ok (.iconst 2, 1) := by decide +kernel
theorem dL_law_216 : decode cL_law 216 = .ok (.iadd, 1) := by decide +kernel
theorem dL_law_217 : decode cL_law 217 = .ok (.iaload, 1) := by decide +kernel
theorem dL_law_218 : decode cL_law 218 = .ok (.aload_n 0, 1) := by decide +kernel
theorem dL_law_219 : decode cL_law 219 = .ok (.iload_n 3, 1) := by decide +kernel
theorem dL_law_220 : decode cL_law 220 = .ok (.iconst 3, 1) := by decide +kernel
theorem dL_law_221 : decode cL_law 221 = .ok (.iadd, 1) := by decide +kernel
theorem dL_law_222 : decode cL_law 222 = .ok (.iaload, 1) := by decide +kernel
theorem dL_law_223 : decode cL_law 223 = .ok (.aload_n 0, 1) := by decide +kernel
theorem dL_law_224 : decode cL_law 224 = .ok (.iload_n 3, 1) := by decide +kernel
theorem dL_law_225 : decode cL_law 225 = .ok (.iconst 4, 1) := by decide +kernel
theorem dL_law_226 : decode cL_law 226 = .ok (.iadd, 1) := by decide +kernel
theorem dL_law_227 : decode cL_law 227 = .ok (.iaload, 1) := by decide +kernel
theorem dL_law_228 : decode cL_law 228 = .ok (.aload_n 0, 1) := by decide +kernel
theorem dL_law_229 : decode cL_law 229 = .ok (.iload_n 3, 1) := by decide +kernel
theorem dL_law_230 : decode cL_law 230 = .ok (.iconst 5, 1) := by decide +kernel
theorem dL_law_231 : decode cL_law 231 = .ok (.iadd, 1) := by decide +kernel
theorem dL_law_232 : decode cL_law 232 = .ok (.iaload, 1) := by decide +kernel
theorem dL_law_233 : decode cL_law 233 = .ok (.invokevirtual 18, 3) := by decide +kernel
theorem dL_law_236 : decode cL_law 236 = .ok (.aload_n 2, 1) := by decide +kernel
theorem dL_law_237 : decode cL_law 237 = .ok (.aload_n 0, 1) := by decide +kernel
theorem dL_law_238 : decode cL_law 238 = .ok (.iload_n 3, 1) := by decide +kernel
theorem dL_law_239 : decode cL_law 239 = .ok (.iconst 1, 1) := by decide +kernel
theorem dL_law_240 : decode cL_law 240 = .ok (.iadd, 1) := by decide +kernel
theorem dL_law_241 : decode cL_law 241 = .ok (.iaload, 1) := by decide +kernel
theorem dL_law_242 : decode cL_law 242 = .ok (.aload_n 0, 1) := by decide +kernel
theorem dL_law_243 : decode cL_law 243 = .ok (.iload_n 3, 1) := by decide +kernel
theorem dL_law_244 : decode cL_law 244 = .ok (.iconst 2, 1) := by decide +kernel
theorem dL_law_245 : decode cL_law 245 = .ok (.iadd, 1) := by decide +kernel
theorem dL_law_246 : decode cL_law 246 = .ok (.iaload, 1) := by decide +kernel
theorem dL_law_247 : decode cL_law 247 = .ok (.aload_n 0, 1) := by decide +kernel
theorem dL_law_248 : decode cL_law 248 = .ok (.iload_n 3, 1) := by decide +kernel
theorem dL_law_249 : decode cL_law 249 = .ok (.iconst 3, 1) := by decide +kernel
theorem dL_law_250 : decode cL_law 250 = .ok (.iadd, 1) := by decide +kernel
theorem dL_law_251 : decode cL_law 251 = .ok (.iaload, 1) := by decide +kernel
theorem dL_law_252 : decode cL_law 252 = .ok (.aload_n 0, 1) := by decide +kernel
theorem dL_law_253 : decode cL_law 253 = .ok (.iload_n 3, 1) := by decide +kernel
theorem dL_law_254 : decode cL_law 254 = .ok (.iconst 4, 1) := by decide +kernel
theorem dL_law_255 : decode cL_law 255 = .ok (.iadd, 1) := by decide +kernel
theorem dL_law_256 : decode cL_law 256 = .ok (.iaload, 1) := by decide +kernel
theorem dL_law_257 : decode cL_law 257 = .ok (.aload_n 0, 1) := by decide +kernel
theorem dL_law_258 : decode cL_law 258 = .ok (.iload_n 3, 1) := by decide +kernel
theorem dL_law_259 : decode cL_law 259 = .ok (.iconst 5, 1) := by decide +kernel
theorem dL_law_260 : decode cL_law 260 = .ok (.iadd, 1) := by decide +kernel
theorem dL_law_261 : decode cL_law 261 = .ok (.iaload, 1) := by decide +kernel
theorem dL_law_262 : decode cL_law 262 = .ok (.invokevirtual 22, 3) := by decide +kernel
theorem dL_law_265 : decode cL_law 265 = .ok (.if_icmp .eq 981, 3) := by decide +kernel
theorem dL_law_268 : decode cL_law 268 = .ok (.iconst 0, 1) := by decide +kernel
theorem dL_law_269 : decode cL_law 269 = .ok (.ireturn, 1) := by decide +kernel
theorem dL_law_270 : decode cL_law 270 = .ok (.aload_n 1, 1) := by decide +kernel
theorem dL_law_271 : decode cL_law 271 = .ok (.aload_n 0, 1) := by decide +kernel
theorem dL_law_272 : decode cL_law 272 = .ok (.iload_n 3, 1) := by decide +kernel
theorem dL_law_273 : decode cL_law 273 = .ok (.iconst 1, 1) := by decide +kernel
theorem dL_law_274 : decode cL_law 274 = .ok (.iadd, 1) := by decide +kernel
theorem dL_law_275 : decode cL_law 275 = .ok (.iaload, 1) := by decide +kernel
theorem dL_law_276 : decode cL_law 276 = .ok (.aload_n 0, 1) := by decide +kernel
theorem dL_law_277 : decode cL_law 277 = .ok (.iload_n 3, 1) := by decide +kernel
theorem dL_law_278 : decode cL_law 278 = .ok (.iconst 2, 1) := by decide +kernel
theorem dL_law_279 : decode cL_law 279 = .ok (.iadd, 1) := by decide +kernel
theorem dL_law_280 : decode cL_law 280 = .ok (.iaload, 1) := by decide +kernel
theorem dL_law_281 : decode cL_law 281 = .ok (.invokevirtual 23, 3) := by decide +kernel
theorem dL_law_284 : decode cL_law 284 = .ok (.aload_n 2, 1) := by decide +kernel
theorem dL_law_285 : decode cL_law 285 = .ok (.aload_n 0, 1) := by decide +kernel
theorem dL_law_286 : decode cL_law 286 = .ok (.iload_n 3, 1) := by decide +kernel
theorem dL_law_287 : decode cL_law 287 = .ok (.iconst 1, 1) := by decide +kernel
theorem dL_law_288 : decode cL_law 288 = .ok (.iadd, 1) := by decide +kernel
theorem dL_law_289 : decode cL_law 289 = .ok (.iaload, 1) := by decide +kernel
theorem dL_law_290 : decode cL_law 290 = .ok (.aload_n 0, 1) := by decide +kernel
theorem dL_law_291 : decode cL_law 291 = .ok (.iload_n 3, 1) := by decide +kernel
theorem dL_law_292 : decode cL_law 292 = .ok (.iconst 2, 1) := by decide +kernel
theorem dL_law_293 : decode cL_law 293 = .ok (.iadd, 1) := by decide +kernel
theorem dL_law_294 : decode cL_law 294 = .ok (.iaload, 1) := by decide +kernel
theorem dL_law_295 : decode cL_law 295 = .ok (.invokevirtual 27, 3) := by decide +kernel
theorem dL_law_298 : decode cL_law 298 = .ok (.if_icmp .eq 948, 3) := by decide +kernel
theorem dL_law_301 : decode cL_law 301 = .ok (.iconst 0, 1) := by decide +kernel
theorem dL_law_302 : decode cL_law 302 = .ok (.ireturn, 1) := by decide +kernel
theorem dL_law_303 : decode cL_law 303 = .ok (.aload_n 1, 1) := by decide +kernel
theorem dL_law_304 : decode cL_law 304 = .ok (.aload_n 0, 1) := by decide +kernel
theorem dL_law_305 : decode cL_law 305 = .ok (.iload_n 3, 1) := by decide +kernel
theorem dL_law_306 : decode cL_law 306 = .ok (.iconst 1, 1) := by decide +kernel
theorem dL_law_307 : decode cL_law 307 = .ok (.iadd, 1) := by decide +kernel
theorem dL_law_308 : decode cL_law 308 = .ok (.iaload, 1) := by decide +kernel
theorem dL_law_309 : decode cL_law 309 = .ok (.invokevirtual 28, 3) := by decide +kernel
theorem dL_law_312 : decode cL_law 312 = .ok (.aload_n 2, 1) := by decide +kernel
theorem dL_law_313 : decode cL_law 313 = .ok (.aload_n 0, 1) := by decide +kernel
theorem dL_law_314 : decode cL_law 314 = .ok (.iload_n 3, 1) := by decide +kernel
theorem dL_law_315 : decode cL_law 315 = .ok (.iconst 1, 1) := by decide +kernel
theorem dL_law_316 : decode cL_law 316 = .ok (.iadd, 1) := by decide +kernel
theorem dL_law_317 : decode cL_law 317 = .ok (.iaload, 1) := by decide +kernel
theorem dL_law_318 : decode cL_law 318 = .ok (.invokevirtual 31, 3) := by decide +kernel
theorem dL_law_321 : decode cL_law 321 = .ok (.if_icmp .eq 925, 3) := by decide +kernel
theorem dL_law_324 : decode cL_law 324 = .ok (.iconst 0, 1) := by decide +kernel
theorem dL_law_325 : decode cL_law 325 = .ok (.ireturn, 1) := by decide +kernel
theorem dL_law_326 : decode cL_law 326 = .ok (.aload_n 1, 1) := by decide +kernel
theorem dL_law_327 : decode cL_law 327 = .ok (.invokevirtual 32, 3) := by decide +kernel
theorem dL_law_330 : decode cL_law 330 = .ok (.aload_n 2, 1) := by decide +kernel
theorem dL_law_331 : decode cL_law 331 = .ok (.invokevirtual 36, 3) := by decide +kernel
theorem dL_law_334 : decode cL_law 334 = .ok (.if_icmp .eq 912, 3) := by decide +kernel
theorem dL_law_337 : decode cL_law 337 = .ok (.iconst 0, 1) := by decide +kernel
theorem dL_law_338 : decode cL_law 338 = .ok (.ireturn, 1) := by decide +kernel
theorem dL_law_339 : decode cL_law 339 = .ok (.aload_n 1, 1) := by decide +kernel
theorem dL_law_340 : decode cL_law 340 = .ok (.aload_n 0, 1) := by decide +kernel
theorem dL_law_341 : decode cL_law 341 = .ok (.iload_n 3, 1) := by decide +kernel
theorem dL_law_342 : decode cL_law 342 = .ok (.iconst 1, 1) := by decide +kernel
theorem dL_law_343 : decode cL_law 343 = .ok (.iadd, 1) := by decide +kernel
theorem dL_law_344 : decode cL_law 344 = .ok (.iaload, 1) := by decide +kernel
theorem dL_law_345 : decode cL_law 345 = .ok (.invokevirtual 37, 3) := by decide +kernel
theorem dL_law_348 : decode cL_law 348 = .ok (.aload_n 2, 1) := by decide +kernel
theorem dL_law_349 : decode cL_law 349 = .ok (.aload_n 0, 1) := by decide +kernel
theorem dL_law_350 : decode cL_law 350 = .ok (.iload_n 3, 1) := by decide +kernel
theorem dL_law_351 : decode cL_law 351 = .ok (.iconst 1, 1) := by decide +kernel
theorem dL_law_352 : decode cL_law 352 = .ok (.iadd, 1) := by decide +kernel
theorem dL_law_353 : decode cL_law 353 = .ok (.iaload, 1) := by decide +kernel
theorem dL_law_354 : decode cL_law 354 = .ok (.invokevirtual 40, 3) := by decide +kernel
theorem dL_law_357 : decode cL_law 357 = .ok (.if_icmp .eq 889, 3) := by decide +kernel
theorem dL_law_360 : decode cL_law 360 = .ok (.iconst 0, 1) := by decide +kernel
theorem dL_law_361 : decode cL_law 361 = .ok (.ireturn, 1) := by decide +kernel
theorem dL_law_362 : decode cL_law 362 = .ok (.aload_n 1, 1) := by decide +kernel
theorem dL_law_363 : decode cL_law 363 = .ok (.aload_n 0, 1) := by decide +kernel
theorem dL_law_364 : decode cL_law 364 = .ok (.iload_n 3, 1) := by decide +kernel
theorem dL_law_365 : decode cL_law 365 = .ok (.iconst 1, 1) := by decide +kernel
theorem dL_law_366 : decode cL_law 366 = .ok (.iadd, 1) := by decide +kernel
theorem dL_law_367 : decode cL_law 367 = .ok (.iaload, 1) := by decide +kernel
theorem dL_law_368 : decode cL_law 368 = .ok (.aload_n 0, 1) := by decide +kernel
theorem dL_law_369 : decode cL_law 369 = .ok (.iload_n 3, 1) := by decide +kernel
theorem dL_law_370 : decode cL_law 370 = .ok (.iconst 2, 1) := by decide +kernel
theorem dL_law_371 : decode cL_law 371 = .ok (.iadd, 1) := by decide +kernel
theorem dL_law_372 : decode cL_law 372 = .ok (.iaload, 1) := by decide +kernel
theorem dL_law_373 : decode cL_law 373 = .ok (.aload_n 0, 1) := by decide +kernel
theorem dL_law_374 : decode cL_law 374 = .ok (.iload_n 3, 1) := by decide +kernel
theorem dL_law_375 : decode cL_law 375 = .ok (.iconst 3, 1) := by decide +kernel
theorem dL_law_376 : decode cL_law 376 = .ok (.iadd, 1) := by decide +kernel
theorem dL_law_377 : decode cL_law 377 = .ok (.iaload, 1) := by decide +kernel
theorem dL_law_378 : decode cL_law 378 = .ok (.invokevirtual 41, 3) := by decide +kernel
theorem dL_law_381 : decode cL_law 381 = .ok (.aload_n 2, 1) := by decide +kernel
theorem dL_law_382 : decode cL_law 382 = .ok (.aload_n 0, 1) := by decide +kernel
theorem dL_law_383 : decode cL_law 383 = .ok (.iload_n 3, 1) := by decide +kernel
theorem dL_law_384 : decode cL_law 384 = .ok (.iconst 1, 1) := by decide +kernel
theorem dL_law_385 : decode cL_law 385 = .ok (.iadd, 1) := by decide +kernel
theorem dL_law_386 : decode cL_law 386 = .ok (.iaload, 1) := by decide +kernel
theorem dL_law_387 : decode cL_law 387 = .ok (.aload_n 0, 1) := by decide +kernel
theorem dL_law_388 : decode cL_law 388 = .ok (.iload_n 3, 1) := by decide +kernel
theorem dL_law_389 : decode cL_law 389 = .ok (.iconst 2, 1) := by decide +kernel
theorem dL_law_390 : decode cL_law 390 = .ok (.iadd, 1) := by decide +kernel
theorem dL_law_391 : decode cL_law 391 = .ok (.iaload, 1) := by decide +kernel
theorem dL_law_392 : decode cL_law 392 = .ok (.aload_n 0, 1) := by decide +kernel
theorem dL_law_393 : decode cL_law 393 = .ok (.iload_n 3, 1) := by decide +kernel
theorem dL_law_394 : decode cL_law 394 = .ok (.iconst 3, 1) := by decide +kernel
theorem dL_law_395 : decode cL_law 395 = .ok (.iadd, 1) := by decide +kernel
theorem dL_law_396 : decode cL_law 396 = .ok (.iaload, 1) := by decide +kernel
theorem dL_law_397 : decode cL_law 397 = .ok (.invokevirtual 45, 3) := by decide +kernel
theorem dL_law_400 : decode cL_law 400 = .ok (.if_icmp .eq 846, 3) := by decide +kernel
theorem dL_law_403 : decode cL_law 403 = .ok (.iconst 0, 1) := by decide +kernel
theorem dL_law_404 : decode cL_law 404 = .ok (.ireturn, 1) := by decide +kernel
theorem dL_law_405 : decode cL_law 405 = .ok (.aload_n 1, 1) := by decide +kernel
theorem dL_law_406 : decode cL_law 406 = .ok (.invokevirtual 46, 3) := by decide +kernel
theorem dL_law_409 : decode cL_law 409 = .ok (.aload_n 2, 1) := by decide +kernel
theorem dL_law_410 : decode cL_law 410 = .ok (.invokevirtual 49, 3) := by decide +kernel
theorem dL_law_413 : decode cL_law 413 = .ok (.if_icmp .eq 833, 3) := by decide +kernel
theorem dL_law_416 : decode cL_law 416 = .ok (.iconst 0, 1) := by decide +kernel
theorem dL_law_417 : decode cL_law 417 = .ok (.ireturn, 1) := by decide +kernel
theorem dL_law_418 : decode cL_law 418 = .ok (.aload_n 1, 1) := by decide +kernel
theorem dL_law_419 : decode cL_law 419 = .ok (.aload_n 0, 1) := by decide +kernel
theorem dL_law_420 : decode cL_law 420 = .ok (.iload_n 3, 1) := by decide +kernel
theorem dL_law_421 : decode cL_law 421 = .ok (.iconst 1, 1) := by decide +kernel
theorem dL_law_422 : decode cL_law 422 = .ok (.iadd, 1) := by decide +kernel
theorem dL_law_423 : decode cL_law 423 = .ok (.iaload, 1) := by decide +kernel
theorem dL_law_424 : decode cL_law 424 = .ok (.aload_n 0, 1) := by decide +kernel
theorem dL_law_425 : decode cL_law 425 = .ok (.iload_n 3, 1) := by decide +kernel
theorem dL_law_426 : decode cL_law 426 = .ok (.iconst 2, 1) := by decide +kernel
theorem dL_law_427 : decode cL_law 427 = .ok (.iadd, 1) := by decide +kernel
theorem dL_law_428 : decode cL_law 428 = .ok (.iaload, 1) := by decide +kernel
theorem dL_law_429 : decode cL_law 429 = .ok (.aload_n 0, 1) := by decide +kernel
theorem dL_law_430 : decode cL_law 430 = .ok (.iload_n 3, 1) := by decide +kernel
theorem dL_law_431 : decode cL_law 431 = .ok (.iconst 3, 1) := by decide +kernel
theorem dL_law_432 : decode cL_law 432 = .ok (.iadd, 1) := by decide +kernel
theorem dL_law_433 : decode cL_law 433 = .ok (.iaload, 1) := by decide +kernel
theorem dL_law_434 : decode cL_law 434 = .ok (.aload_n 0, 1) := by decide +kernel
theorem dL_law_435 : decode cL_law 435 = .ok (.iload_n 3, 1) := by decide +kernel
theorem dL_law_436 : decode cL_law 436 = .ok (.iconst 4, 1) := by decide +kernel
theorem dL_law_437 : decode cL_law 437 = .ok (.iadd, 1) := by decide +kernel
theorem dL_law_438 : decode cL_law 438 = .ok (.iaload, 1) := by decide +kernel
theorem dL_law_439 : decode cL_law 439 = .ok (.aload_n 0, 1) := by decide +kernel
theorem dL_law_440 : decode cL_law 440 = .ok (.iload_n 3, 1) := by decide +kernel
theorem dL_law_441 : decode cL_law 441 = .ok (.iconst 5, 1) := by decide +kernel
theorem dL_law_442 : decode cL_law 442 = .ok (.iadd, 1) := by decide +kernel
theorem dL_law_443 : decode cL_law 443 = .ok (.iaload, 1) := by decide +kernel
theorem dL_law_444 : decode cL_law 444 = .ok (.invokevirtual 50, 3) := by decide +kernel
theorem dL_law_447 : decode cL_law 447 = .ok (.aload_n 2, 1) := by decide +kernel
theorem dL_law_448 : decode cL_law 448 = .ok (.aload_n 0, 1) := by decide +kernel
theorem dL_law_449 : decode cL_law 449 = .ok (.iload_n 3, 1) := by decide +kernel
theorem dL_law_450 : decode cL_law 450 = .ok (.iconst 1, 1) := by decide +kernel
theorem dL_law_451 : decode cL_law 451 = .ok (.iadd, 1) := by decide +kernel
theorem dL_law_452 : decode cL_law 452 = .ok (.iaload, 1) := by decide +kernel
theorem dL_law_453 : decode cL_law 453 = .ok (.aload_n 0, 1) := by decide +kernel
theorem dL_law_454 : decode cL_law 454 = .ok (.iload_n 3, 1) := by decide +kernel
theorem dL_law_455 : decode cL_law 455 = .ok (.iconst 2, 1) := by decide +kernel
theorem dL_law_456 : decode cL_law 456 = .ok (.iadd, 1) := by decide +kernel
theorem dL_law_457 : decode cL_law 457 = .ok (.iaload, 1) := by decide +kernel
theorem dL_law_458 : decode cL_law 458 = .ok (.aload_n 0, 1) := by decide +kernel
theorem dL_law_459 : decode cL_law 459 = .ok (.iload_n 3, 1) := by decide +kernel
theorem dL_law_460 : decode cL_law 460 = .ok (.iconst 3, 1) := by decide +kernel
theorem dL_law_461 : decode cL_law 461 = .ok (.iadd, 1) := by decide +kernel
theorem dL_law_462 : decode cL_law 462 = .ok (.iaload, 1) := by decide +kernel
theorem dL_law_463 : decode cL_law 463 = .ok (.aload_n 0, 1) := by decide +kernel
theorem dL_law_464 : decode cL_law 464 = .ok (.iload_n 3, 1) := by decide +kernel
theorem dL_law_465 : decode cL_law 465 = .ok (.iconst 4, 1) := by decide +kernel
theorem dL_law_466 : decode cL_law 466 = .ok (.iadd, 1) := by decide +kernel
theorem dL_law_467 : decode cL_law 467 = .ok (.iaload, 1) := by decide +kernel
theorem dL_law_468 : decode cL_law 468 = .ok (.aload_n 0, 1) := by decide +kernel
theorem dL_law_469 : decode cL_law 469 = .ok (.iload_n 3, 1) := by decide +kernel
theorem dL_law_470 : decode cL_law 470 = .ok (.iconst 5, 1) := by decide +kernel
theorem dL_law_471 : decode cL_law 471 = .ok (.iadd, 1) := by decide +kernel
theorem dL_law_472 : decode cL_law 472 = .ok (.iaload, 1) := by decide +kernel
theorem dL_law_473 : decode cL_law 473 = .ok (.invokevirtual 53, 3) := by decide +kernel
theorem dL_law_476 : decode cL_law 476 = .ok (.if_icmp .eq 770, 3) := by decide +kernel
theorem dL_law_479 : decode cL_law 479 = .ok (.iconst 0, 1) := by decide +kernel
theorem dL_law_480 : decode cL_law 480 = .ok (.ireturn, 1) := by decide +kernel
theorem dL_law_481 : decode cL_law 481 = .ok (.aload_n 1, 1) := by decide +kernel
theorem dL_law_482 : decode cL_law 482 = .ok (.aload_n 0, 1) := by decide +kernel
theorem dL_law_483 : decode cL_law 483 = .ok (.iload_n 3, 1) := by decide +kernel
theorem dL_law_484 : decode cL_law 484 = .ok (.iconst 1, 1) := by decide +kernel
theorem dL_law_485 : decode cL_law 485 = .ok (.iadd, 1) := by decide +kernel
theorem dL_law_486 : decode cL_law 486 = .ok (.iaload, 1) := by decide +kernel
theorem dL_law_487 : decode cL_law 487 = .ok (.aload_n 0, 1) := by decide +kernel
theorem dL_law_488 : decode cL_law 488 = .ok (.iload_n 3, 1) := by decide +kernel
theorem dL_law_489 : decode cL_law 489 = .ok (.iconst 2, 1) := by decide +kernel
theorem dL_law_490 : decode cL_law 490 = .ok (.iadd, 1) := by decide +kernel
theorem dL_law_491 : decode cL_law 491 = .ok (.iaload, 1) := by decide +kernel
theorem dL_law_492 : decode cL_law 492 = .ok (.invokevirtual 54, 3) := by decide +kernel
theorem dL_law_495 : decode cL_law 495 = .ok (.aload_n 2, 1) := by decide +kernel
theorem dL_law_496 : decode cL_law 496 = .ok (.aload_n 0, 1) := by decide +kernel
theorem dL_law_497 : decode cL_law 497 = .ok (.iload_n 3, 1) := by decide +kernel
theorem dL_law_498 : decode cL_law 498 = .ok (.iconst 1, 1) := by decide +kernel
theorem dL_law_499 : decode cL_law 499 = .ok (.iadd, 1) := by decide +kernel
theorem dL_law_500 : decode cL_law 500 = .ok (.iaload, 1) := by decide +kernel
theorem dL_law_501 : decode cL_law 501 = .ok (.aload_n 0, 1) := by decide +kernel
theorem dL_law_502 : decode cL_law 502 = .ok (.iload_n 3, 1) := by decide +kernel
theorem dL_law_503 : decode cL_law 503 = .ok (.iconst 2, 1) := by decide +kernel
theorem dL_law_504 : decode cL_law 504 = .ok (.iadd, 1) := by decide +kernel
theorem dL_law_505 : decode cL_law 505 = .ok (.iaload, 1) := by decide +kernel
theorem dL_law_506 : decode cL_law 506 = .ok (.invokevirtual 57, 3) := by decide +kernel
theorem dL_law_509 : decode cL_law 509 = .ok (.if_icmp .eq 737, 3) := by decide +kernel
theorem dL_law_512 : decode cL_law 512 = .ok (.iconst 0, 1) := by decide +kernel
theorem dL_law_513 : decode cL_law 513 = .ok (.ireturn, 1) := by decide +kernel
theorem dL_law_514 : decode cL_law 514 = .ok (.aload_n 1, 1) := by decide +kernel
theorem dL_law_515 : decode cL_law 515 = .ok (.aload_n 0, 1) := by decide +kernel
theorem dL_law_516 : decode cL_law 516 = .ok (.iload_n 3, 1) := by decide +kernel
theorem dL_law_517 : decode cL_law 517 = .ok (.iconst 1, 1) := by decide +kernel
theorem dL_law_518 : decode cL_law 518 = .ok (.iadd, 1) := by decide +kernel
theorem dL_law_519 : decode cL_law 519 = .ok (.iaload, 1) := by decide +kernel
theorem dL_law_520 : decode cL_law 520 = .ok (.invokevirtual 58, 3) := by decide +kernel
theorem dL_law_523 : decode cL_law 523 = .ok (.aload_n 2, 1) := by decide +kernel
theorem dL_law_524 : decode cL_law 524 = .ok (.aload_n 0, 1) := by decide +kernel
theorem dL_law_525 : decode cL_law 525 = .ok (.iload_n 3, 1) := by decide +kernel
theorem dL_law_526 : decode cL_law 526 = .ok (.iconst 1, 1) := by decide +kernel
theorem dL_law_527 : decode cL_law 527 = .ok (.iadd, 1) := by decide +kernel
theorem dL_law_528 : decode cL_law 528 = .ok (.iaload, 1) := by decide +kernel
theorem dL_law_529 : decode cL_law 529 = .ok (.invokevirtual 61, 3) := by decide +kernel
theorem dL_law_532 : decode cL_law 532 = .ok (.if_icmp .eq 714, 3) := by decide +kernel
theorem dL_law_535 : decode cL_law 535 = .ok (.iconst 0, 1) := by decide +kernel
theorem dL_law_536 : decode cL_law 536 = .ok (.ireturn, 1) := by decide +kernel
theorem dL_law_537 : decode cL_law 537 = .ok (.aload_n 1, 1) := by decide +kernel
theorem dL_law_538 : decode cL_law 538 = .ok (.aload_n 0, 1) := by decide +kernel
theorem dL_law_539 : decode cL_law 539 = .ok (.iload_n 3, 1) := by decide +kernel
theorem dL_law_540 : decode cL_law 540 = .ok (.iconst 1, 1) := by decide +kernel
theorem dL_law_541 : decode cL_law 541 = .ok (.iadd, 1) := by decide +kernel
theorem dL_law_542 : decode cL_law 542 = .ok (.iaload, 1) := by decide +kernel
theorem dL_law_543 : decode cL_law 543 = .ok (.aload_n 0, 1) := by decide +kernel
theorem dL_law_544 : decode cL_law 544 = .ok (.iload_n 3, 1) := by decide +kernel
theorem dL_law_545 : decode cL_law 545 = .ok (.iconst 2, 1) := by decide +kernel
theorem dL_law_546 : decode cL_law 546 = .ok (.iadd, 1) := by decide +kernel
theorem dL_law_547 : decode cL_law 547 = .ok (.iaload, 1) := by decide +kernel
theorem dL_law_548 : decode cL_law 548 = .ok (.invokevirtual 62, 3) := by decide +kernel
theorem dL_law_551 : decode cL_law 551 = .ok (.aload_n 2, 1) := by decide +kernel
theorem dL_law_552 : decode cL_law 552 = .ok (.aload_n 0, 1) := by decide +kernel
theorem dL_law_553 : decode cL_law 553 = .ok (.iload_n 3, 1) := by decide +kernel
theorem dL_law_554 : decode cL_law 554 = .ok (.iconst 1, 1) := by decide +kernel
theorem dL_law_555 : decode cL_law 555 = .ok (.iadd, 1) := by decide +kernel
theorem dL_law_556 : decode cL_law 556 = .ok (.iaload, 1) := by decide +kernel
theorem dL_law_557 : decode cL_law 557 = .ok (.aload_n 0, 1) := by decide +kernel
theorem dL_law_558 : decode cL_law 558 = .ok (.iload_n 3, 1) := by decide +kernel
theorem dL_law_559 : decode cL_law 559 = .ok (.iconst 2, 1) := by decide +kernel
theorem dL_law_560 : decode cL_law 560 = .ok (.iadd, 1) := by decide +kernel
theorem dL_law_561 : decode cL_law 561 = .ok (.iaload, 1) := by decide +kernel
theorem dL_law_562 : decode cL_law 562 = .ok (.invokevirtual 65, 3) := by decide +kernel
theorem dL_law_565 : decode cL_law 565 = .ok (.if_icmp .eq 681, 3) := by decide +kernel
theorem dL_law_568 : decode cL_law 568 = .ok (.iconst 0, 1) := by decide +kernel
theorem dL_law_569 : decode cL_law 569 = .ok (.ireturn, 1) := by decide +kernel
theorem dL_law_570 : decode cL_law 570 = .ok (.aload_n 1, 1) := by decide +kernel
theorem dL_law_571 : decode cL_law 571 = .ok (.aload_n 0, 1) := by decide +kernel
theorem dL_law_572 : decode cL_law 572 = .ok (.iload_n 3, 1) := by decide +kernel
theorem dL_law_573 : decode cL_law 573 = .ok (.iconst 1, 1) := by decide +kernel
theorem dL_law_574 : decode cL_law 574 = .ok (.iadd, 1) := by decide +kernel
theorem dL_law_575 : decode cL_law 575 = .ok (.iaload, 1) := by decide +kernel
theorem dL_law_576 : decode cL_law 576 = .ok (.invokevirtual 66, 3) := by decide +kernel
theorem dL_law_579 : decode cL_law 579 = .ok (.aload_n 2, 1) := by decide +kernel
theorem dL_law_580 : decode cL_law 580 = .ok (.aload_n 0, 1) := by decide +kernel
theorem dL_law_581 : decode cL_law 581 = .ok (.iload_n 3, 1) := by decide +kernel
theorem dL_law_582 : decode cL_law 582 = .ok (.iconst 1, 1) := by decide +kernel
theorem dL_law_583 : decode cL_law 583 = .ok (.iadd, 1) := by decide +kernel
theorem dL_law_584 : decode cL_law 584 = .ok (.iaload, 1) := by decide +kernel
theorem dL_law_585 : decode cL_law 585 = .ok (.invokevirtual 69, 3) := by decide +kernel
theorem dL_law_588 : decode cL_law 588 = .ok (.if_icmp .eq 658, 3) := by decide +kernel
theorem dL_law_591 : decode cL_law 591 = .ok (.iconst 0, 1) := by decide +kernel
theorem dL_law_592 : decode cL_law 592 = .ok (.ireturn, 1) := by decide +kernel
theorem dL_law_593 : decode cL_law 593 = .ok (.aload_n 1, 1) := by decide +kernel
theorem dL_law_594 : decode cL_law 594 = .ok (.aload_n 0, 1) := by decide +kernel
theorem dL_law_595 : decode cL_law 595 = .ok (.iload_n 3, 1) := by decide +kernel
theorem dL_law_596 : decode cL_law 596 = .ok (.iconst 1, 1) := by decide +kernel
theorem dL_law_597 : decode cL_law 597 = .ok (.iadd, 1) := by decide +kernel
theorem dL_law_598 : decode cL_law 598 = .ok (.iaload, 1) := by decide +kernel
theorem dL_law_599 : decode cL_law 599 = .ok (.invokevirtual 70, 3) := by decide +kernel
theorem dL_law_602 : decode cL_law 602 = .ok (.aload_n 2, 1) := by decide +kernel
theorem dL_law_603 : decode cL_law 603 = .ok (.aload_n 0, 1) := by decide +kernel
theorem dL_law_604 : decode cL_law 604 = .ok (.iload_n 3, 1) := by decide +kernel
theorem dL_law_605 : decode cL_law 605 = .ok (.iconst 1, 1) := by decide +kernel
theorem dL_law_606 : decode cL_law 606 = .ok (.iadd, 1) := by decide +kernel
theorem dL_law_607 : decode cL_law 607 = .ok (.iaload, 1) := by decide +kernel
theorem dL_law_608 : decode cL_law 608 = .ok (.invokevirtual 73, 3) := by decide +kernel
theorem dL_law_611 : decode cL_law 611 = .ok (.if_icmp .eq 635, 3) := by decide +kernel
theorem dL_law_614 : decode cL_law 614 = .ok (.iconst 0, 1) := by decide +kernel
theorem dL_law_615 : decode cL_law 615 = .ok (.ireturn, 1) := by decide +kernel
theorem dL_law_616 : decode cL_law 616 = .ok (.aload_n 1, 1) := by decide +kernel
theorem dL_law_617 : decode cL_law 617 = .ok (.aload_n 0, 1) := by decide +kernel
theorem dL_law_618 : decode cL_law 618 = .ok (.iload_n 3, 1) := by decide +kernel
theorem dL_law_619 : decode cL_law 619 = .ok (.iconst 1, 1) := by decide +kernel
theorem dL_law_620 : decode cL_law 620 = .ok (.iadd, 1) := by decide +kernel
theorem dL_law_621 : decode cL_law 621 = .ok (.iaload, 1) := by decide +kernel
theorem dL_law_622 : decode cL_law 622 = .ok (.aload_n 0, 1) := by decide +kernel
theorem dL_law_623 : decode cL_law 623 = .ok (.iload_n 3, 1) := by decide +kernel
theorem dL_law_624 : decode cL_law 624 = .ok (.iconst 2, 1) := by decide +kernel
theorem dL_law_625 : decode cL_law 625 = .ok (.iadd, 1) := by decide +kernel
theorem dL_law_626 : decode cL_law 626 = .ok (.iaload, 1) := by decide +kernel
theorem dL_law_627 : decode cL_law 627 = .ok (.invokevirtual 74, 3) := by decide +kernel
theorem dL_law_630 : decode cL_law 630 = .ok (.aload_n 2, 1) := by decide +kernel
theorem dL_law_631 : decode cL_law 631 = .ok (.aload_n 0, 1) := by decide +kernel
theorem dL_law_632 : decode cL_law 632 = .ok (.iload_n 3, 1) := by decide +kernel
theorem dL_law_633 : decode cL_law 633 = .ok (.iconst 1, 1) := by decide +kernel
theorem dL_law_634 : decode cL_law 634 = .ok (.iadd, 1) := by decide +kernel
theorem dL_law_635 : decode cL_law 635 = .ok (.iaload, 1) := by decide +kernel
theorem dL_law_636 : decode cL_law 636 = .ok (.aload_n 0, 1) := by decide +kernel
theorem dL_law_637 : decode cL_law 637 = .ok (.iload_n 3, 1) := by decide +kernel
theorem dL_law_638 : decode cL_law 638 = .ok (.iconst 2, 1) := by decide +kernel
theorem dL_law_639 : decode cL_law 639 = .ok (.iadd, 1) := by decide +kernel
theorem dL_law_640 : decode cL_law 640 = .ok (.iaload, 1) := by decide +kernel
theorem dL_law_641 : decode cL_law 641 = .ok (.invokevirtual 77, 3) := by decide +kernel
theorem dL_law_644 : decode cL_law 644 = .ok (.if_icmp .eq 602, 3) := by decide +kernel
theorem dL_law_647 : decode cL_law 647 = .ok (.iconst 0, 1) := by decide +kernel
theorem dL_law_648 : decode cL_law 648 = .ok (.ireturn, 1) := by decide +kernel
theorem dL_law_649 : decode cL_law 649 = .ok (.aload_n 1, 1) := by decide +kernel
theorem dL_law_650 : decode cL_law 650 = .ok (.aload_n 0, 1) := by decide +kernel
theorem dL_law_651 : decode cL_law 651 = .ok (.iload_n 3, 1) := by decide +kernel
theorem dL_law_652 : decode cL_law 652 = .ok (.iconst 1, 1) := by decide +kernel
theorem dL_law_653 : decode cL_law 653 = .ok (.iadd, 1) := by decide +kernel
theorem dL_law_654 : decode cL_law 654 = .ok (.iaload, 1) := by decide +kernel
theorem dL_law_655 : decode cL_law 655 = .ok (.aload_n 0, 1) := by decide +kernel
theorem dL_law_656 : decode cL_law 656 = .ok (.iload_n 3, 1) := by decide +kernel
theorem dL_law_657 : decode cL_law 657 = .ok (.iconst 2, 1) := by decide +kernel
theorem dL_law_658 : decode cL_law 658 = .ok (.iadd, 1) := by decide +kernel
theorem dL_law_659 : decode cL_law 659 = .ok (.iaload, 1) := by decide +kernel
theorem dL_law_660 : decode cL_law 660 = .ok (.invokevirtual 78, 3) := by decide +kernel
theorem dL_law_663 : decode cL_law 663 = .ok (.aload_n 2, 1) := by decide +kernel
theorem dL_law_664 : decode cL_law 664 = .ok (.aload_n 0, 1) := by decide +kernel
theorem dL_law_665 : decode cL_law 665 = .ok (.iload_n 3, 1) := by decide +kernel
theorem dL_law_666 : decode cL_law 666 = .ok (.iconst 1, 1) := by decide +kernel
theorem dL_law_667 : decode cL_law 667 = .ok (.iadd, 1) := by decide +kernel
theorem dL_law_668 : decode cL_law 668 = .ok (.iaload, 1) := by decide +kernel
theorem dL_law_669 : decode cL_law 669 = .ok (.aload_n 0, 1) := by decide +kernel
theorem dL_law_670 : decode cL_law 670 = .ok (.iload_n 3, 1) := by decide +kernel
theorem dL_law_671 : decode cL_law 671 = .ok (.iconst 2, 1) := by decide +kernel
theorem dL_law_672 : decode cL_law 672 = .ok (.iadd, 1) := by decide +kernel
theorem dL_law_673 : decode cL_law 673 = .ok (.iaload, 1) := by decide +kernel
theorem dL_law_674 : decode cL_law 674 = .ok (.invokevirtual 81, 3) := by decide +kernel
theorem dL_law_677 : decode cL_law 677 = .ok (.if_icmp .eq 569, 3) := by decide +kernel
theorem dL_law_680 : decode cL_law 680 = .ok (.iconst 0, 1) := by decide +kernel
theorem dL_law_681 : decode cL_law 681 = .ok (.ireturn, 1) := by decide +kernel
theorem dL_law_682 : decode cL_law 682 = .ok (.aload_n 1, 1) := by decide +kernel
theorem dL_law_683 : decode cL_law 683 = .ok (.aload_n 0, 1) := by decide +kernel
theorem dL_law_684 : decode cL_law 684 = .ok (.iload_n 3, 1) := by decide +kernel
theorem dL_law_685 : decode cL_law 685 = .ok (.iconst 1, 1) := by decide +kernel
theorem dL_law_686 : decode cL_law 686 = .ok (.iadd, 1) := by decide +kernel
theorem dL_law_687 : decode cL_law 687 = .ok (.iaload, 1) := by decide +kernel
theorem dL_law_688 : decode cL_law 688 = .ok (.aload_n 0, 1) := by decide +kernel
theorem dL_law_689 : decode cL_law 689 = .ok (.iload_n 3, 1) := by decide +kernel
theorem dL_law_690 : decode cL_law 690 = .ok (.iconst 2, 1) := by decide +kernel
theorem dL_law_691 : decode cL_law 691 = .ok (.iadd, 1) := by decide +kernel
theorem dL_law_692 : decode cL_law 692 = .ok (.iaload, 1) := by decide +kernel
theorem dL_law_693 : decode cL_law 693 = .ok (.aload_n 0, 1) := by decide +kernel
theorem dL_law_694 : decode cL_law 694 = .ok (.iload_n 3, 1) := by decide +kernel
theorem dL_law_695 : decode cL_law 695 = .ok (.iconst 3, 1) := by decide +kernel
theorem dL_law_696 : decode cL_law 696 = .ok (.iadd, 1) := by decide +kernel
theorem dL_law_697 : decode cL_law 697 = .ok (.iaload, 1) := by decide +kernel
theorem dL_law_698 : decode cL_law 698 = .ok (.invokevirtual 82, 3) := by decide +kernel
theorem dL_law_701 : decode cL_law 701 = .ok (.aload_n 2, 1) := by decide +kernel
theorem dL_law_702 : decode cL_law 702 = .ok (.aload_n 0, 1) := by decide +kernel
theorem dL_law_703 : decode cL_law 703 = .ok (.iload_n 3, 1) := by decide +kernel
theorem dL_law_704 : decode cL_law 704 = .ok (.iconst 1, 1) := by decide +kernel
theorem dL_law_705 : decode cL_law 705 = .ok (.iadd, 1) := by decide +kernel
theorem dL_law_706 : decode cL_law 706 = .ok (.iaload, 1) := by decide +kernel
theorem dL_law_707 : decode cL_law 707 = .ok (.aload_n 0, 1) := by decide +kernel
theorem dL_law_708 : decode cL_law 708 = .ok (.iload_n 3, 1) := by decide +kernel
theorem dL_law_709 : decode cL_law 709 = .ok (.iconst 2, 1) := by decide +kernel
theorem dL_law_710 : decode cL_law 710 = .ok (.iadd, 1) := by decide +kernel
theorem dL_law_711 : decode cL_law 711 = .ok (.iaload, 1) := by decide +kernel
theorem dL_law_712 : decode cL_law 712 = .ok (.aload_n 0, 1) := by decide +kernel
theorem dL_law_713 : decode cL_law 713 = .ok (.iload_n 3, 1) := by decide +kernel
theorem dL_law_714 : decode cL_law 714 = .ok (.iconst 3, 1) := by decide +kernel
theorem dL_law_715 : decode cL_law 715 = .ok (.iadd, 1) := by decide +kernel
theorem dL_law_716 : decode cL_law 716 = .ok (.iaload, 1) := by decide +kernel
theorem dL_law_717 : decode cL_law 717 = .ok (.invokevirtual 85, 3) := by decide +kernel
theorem dL_law_720 : decode cL_law 720 = .ok (.if_icmp .eq 526, 3) := by decide +kernel
theorem dL_law_723 : decode cL_law 723 = .ok (.iconst 0, 1) := by decide +kernel
theorem dL_law_724 : decode cL_law 724 = .ok (.ireturn, 1) := by decide +kernel
theorem dL_law_725 : decode cL_law 725 = .ok (.aload_n 1, 1) := by decide +kernel
theorem dL_law_726 : decode cL_law 726 = .ok (.aload_n 0, 1) := by decide +kernel
theorem dL_law_727 : decode cL_law 727 = .ok (.iload_n 3, 1) := by decide +kernel
theorem dL_law_728 : decode cL_law 728 = .ok (.iconst 1, 1) := by decide +kernel
theorem dL_law_729 : decode cL_law 729 = .ok (.iadd, 1) := by decide +kernel
theorem dL_law_730 : decode cL_law 730 = .ok (.iaload, 1) := by decide +kernel
theorem dL_law_731 : decode cL_law 731 = .ok (.aload_n 0, 1) := by decide +kernel
theorem dL_law_732 : decode cL_law 732 = .ok (.iload_n 3, 1) := by decide +kernel
theorem dL_law_733 : decode cL_law 733 = .ok (.iconst 2, 1) := by decide +kernel
theorem dL_law_734 : decode cL_law 734 = .ok (.iadd, 1) := by decide +kernel
theorem dL_law_735 : decode cL_law 735 = .ok (.iaload, 1) := by decide +kernel
theorem dL_law_736 : decode cL_law 736 = .ok (.aload_n 0, 1) := by decide +kernel
theorem dL_law_737 : decode cL_law 737 = .ok (.iload_n 3, 1) := by decide +kernel
theorem dL_law_738 : decode cL_law 738 = .ok (.iconst 3, 1) := by decide +kernel
theorem dL_law_739 : decode cL_law 739 = .ok (.iadd, 1) := by decide +kernel
theorem dL_law_740 : decode cL_law 740 = .ok (.iaload, 1) := by decide +kernel
theorem dL_law_741 : decode cL_law 741 = .ok (.aload_n 0, 1) := by decide +kernel
theorem dL_law_742 : decode cL_law 742 = .ok (.iload_n 3, 1) := by decide +kernel
theorem dL_law_743 : decode cL_law 743 = .ok (.iconst 4, 1) := by decide +kernel
theorem dL_law_744 : decode cL_law 744 = .ok (.iadd, 1) := by decide +kernel
theorem dL_law_745 : decode cL_law 745 = .ok (.iaload, 1) := by decide +kernel
theorem dL_law_746 : decode cL_law 746 = .ok (.invokevirtual 86, 3) := by decide +kernel
theorem dL_law_749 : decode cL_law 749 = .ok (.aload_n 2, 1) := by decide +kernel
theorem dL_law_750 : decode cL_law 750 = .ok (.aload_n 0, 1) := by decide +kernel
theorem dL_law_751 : decode cL_law 751 = .ok (.iload_n 3, 1) := by decide +kernel
theorem dL_law_752 : decode cL_law 752 = .ok (.iconst 1, 1) := by decide +kernel
theorem dL_law_753 : decode cL_law 753 = .ok (.iadd, 1) := by decide +kernel
theorem dL_law_754 : decode cL_law 754 = .ok (.iaload, 1) := by decide +kernel
theorem dL_law_755 : decode cL_law 755 = .ok (.aload_n 0, 1) := by decide +kernel
theorem dL_law_756 : decode cL_law 756 = .ok (.iload_n 3, 1) := by decide +kernel
theorem dL_law_757 : decode cL_law 757 = .ok (.iconst 2, 1) := by decide +kernel
theorem dL_law_758 : decode cL_law 758 = .ok (.iadd, 1) := by decide +kernel
theorem dL_law_759 : decode cL_law 759 = .ok (.iaload, 1) := by decide +kernel
theorem dL_law_760 : decode cL_law 760 = .ok (.aload_n 0, 1) := by decide +kernel
theorem dL_law_761 : decode cL_law 761 = .ok (.iload_n 3, 1) := by decide +kernel
theorem dL_law_762 : decode cL_law 762 = .ok (.iconst 3, 1) := by decide +kernel
theorem dL_law_763 : decode cL_law 763 = .ok (.iadd, 1) := by decide +kernel
theorem dL_law_764 : decode cL_law 764 = .ok (.iaload, 1) := by decide +kernel
theorem dL_law_765 : decode cL_law 765 = .ok (.aload_n 0, 1) := by decide +kernel
theorem dL_law_766 : decode cL_law 766 = .ok (.iload_n 3, 1) := by decide +kernel
theorem dL_law_767 : decode cL_law 767 = .ok (.iconst 4, 1) := by decide +kernel
theorem dL_law_768 : decode cL_law 768 = .ok (.iadd, 1) := by decide +kernel
theorem dL_law_769 : decode cL_law 769 = .ok (.iaload, 1) := by decide +kernel
theorem dL_law_770 : decode cL_law 770 = .ok (.invokevirtual 90, 3) := by decide +kernel
theorem dL_law_773 : decode cL_law 773 = .ok (.if_icmp .eq 473, 3) := by decide +kernel
theorem dL_law_776 : decode cL_law 776 = .ok (.iconst 0, 1) := by decide +kernel
theorem dL_law_777 : decode cL_law 777 = .ok (.ireturn, 1) := by decide +kernel
theorem dL_law_778 : decode cL_law 778 = .ok (.aload_n 1, 1) := by decide +kernel
theorem dL_law_779 : decode cL_law 779 = .ok (.aload_n 0, 1) := by decide +kernel
theorem dL_law_780 : decode cL_law 780 = .ok (.iload_n 3, 1) := by decide +kernel
theorem dL_law_781 : decode cL_law 781 = .ok (.iconst 1, 1) := by decide +kernel
theorem dL_law_782 : decode cL_law 782 = .ok (.iadd, 1) := by decide +kernel
theorem dL_law_783 : decode cL_law 783 = .ok (.iaload, 1) := by decide +kernel
theorem dL_law_784 : decode cL_law 784 = .ok (.aload_n 0, 1) := by decide +kernel
theorem dL_law_785 : decode cL_law 785 = .ok (.iload_n 3, 1) := by decide +kernel
theorem dL_law_786 : decode cL_law 786 = .ok (.iconst 2, 1) := by decide +kernel
theorem dL_law_787 : decode cL_law 787 = .ok (.iadd, 1) := by decide +kernel
theorem dL_law_788 : decode cL_law 788 = .ok (.iaload, 1) := by decide +kernel
theorem dL_law_789 : decode cL_law 789 = .ok (.aload_n 0, 1) := by decide +kernel
theorem dL_law_790 : decode cL_law 790 = .ok (.iload_n 3, 1) := by decide +kernel
theorem dL_law_791 : decode cL_law 791 = .ok (.iconst 3, 1) := by decide +kernel
theorem dL_law_792 : decode cL_law 792 = .ok (.iadd, 1) := by decide +kernel
theorem dL_law_793 : decode cL_law 793 = .ok (.iaload, 1) := by decide +kernel
theorem dL_law_794 : decode cL_law 794 = .ok (.aload_n 0, 1) := by decide +kernel
theorem dL_law_795 : decode cL_law 795 = .ok (.iload_n 3, 1) := by decide +kernel
theorem dL_law_796 : decode cL_law 796 = .ok (.iconst 4, 1) := by decide +kernel
theorem dL_law_797 : decode cL_law 797 = .ok (.iadd, 1) := by decide +kernel
theorem dL_law_798 : decode cL_law 798 = .ok (.iaload, 1) := by decide +kernel
theorem dL_law_799 : decode cL_law 799 = .ok (.invokevirtual 91, 3) := by decide +kernel
theorem dL_law_802 : decode cL_law 802 = .ok (.aload_n 2, 1) := by decide +kernel
theorem dL_law_803 : decode cL_law 803 = .ok (.aload_n 0, 1) := by decide +kernel
theorem dL_law_804 : decode cL_law 804 = .ok (.iload_n 3, 1) := by decide +kernel
theorem dL_law_805 : decode cL_law 805 = .ok (.iconst 1, 1) := by decide +kernel
theorem dL_law_806 : decode cL_law 806 = .ok (.iadd, 1) := by decide +kernel
theorem dL_law_807 : decode cL_law 807 = .ok (.iaload, 1) := by decide +kernel
theorem dL_law_808 : decode cL_law 808 = .ok (.aload_n 0, 1) := by decide +kernel
theorem dL_law_809 : decode cL_law 809 = .ok (.iload_n 3, 1) := by decide +kernel
theorem dL_law_810 : decode cL_law 810 = .ok (.iconst 2, 1) := by decide +kernel
theorem dL_law_811 : decode cL_law 811 = .ok (.iadd, 1) := by decide +kernel
theorem dL_law_812 : decode cL_law 812 = .ok (.iaload, 1) := by decide +kernel
theorem dL_law_813 : decode cL_law 813 = .ok (.aload_n 0, 1) := by decide +kernel
theorem dL_law_814 : decode cL_law 814 = .ok (.iload_n 3, 1) := by decide +kernel
theorem dL_law_815 : decode cL_law 815 = .ok (.iconst 3, 1) := by decide +kernel
theorem dL_law_816 : decode cL_law 816 = .ok (.iadd, 1) := by decide +kernel
theorem dL_law_817 : decode cL_law 817 = .ok (.iaload, 1) := by decide +kernel
theorem dL_law_818 : decode cL_law 818 = .ok (.aload_n 0, 1) := by decide +kernel
theorem dL_law_819 : decode cL_law 819 = .ok (.iload_n 3, 1) := by decide +kernel
theorem dL_law_820 : decode cL_law 820 = .ok (.iconst 4, 1) := by decide +kernel
theorem dL_law_821 : decode cL_law 821 = .ok (.iadd, 1) := by decide +kernel
theorem dL_law_822 : decode cL_law 822 = .ok (.iaload, 1) := by decide +kernel
theorem dL_law_823 : decode cL_law 823 = .ok (.invokevirtual 94, 3) := by decide +kernel
theorem dL_law_826 : decode cL_law 826 = .ok (.if_icmp .eq 420, 3) := by decide +kernel
theorem dL_law_829 : decode cL_law 829 = .ok (.iconst 0, 1) := by decide +kernel
theorem dL_law_830 : decode cL_law 830 = .ok (.ireturn, 1) := by decide +kernel
theorem dL_law_831 : decode cL_law 831 = .ok (.aload_n 1, 1) := by decide +kernel
theorem dL_law_832 : decode cL_law 832 = .ok (.aload_n 0, 1) := by decide +kernel
theorem dL_law_833 : decode cL_law 833 = .ok (.iload_n 3, 1) := by decide +kernel
theorem dL_law_834 : decode cL_law 834 = .ok (.iconst 1, 1) := by decide +kernel
theorem dL_law_835 : decode cL_law 835 = .ok (.iadd, 1) := by decide +kernel
theorem dL_law_836 : decode cL_law 836 = .ok (.iaload, 1) := by decide +kernel
theorem dL_law_837 : decode cL_law 837 = .ok (.aload_n 0, 1) := by decide +kernel
theorem dL_law_838 : decode cL_law 838 = .ok (.iload_n 3, 1) := by decide +kernel
theorem dL_law_839 : decode cL_law 839 = .ok (.iconst 2, 1) := by decide +kernel
theorem dL_law_840 : decode cL_law 840 = .ok (.iadd, 1) := by decide +kernel
theorem dL_law_841 : decode cL_law 841 = .ok (.iaload, 1) := by decide +kernel
theorem dL_law_842 : decode cL_law 842 = .ok (.aload_n 0, 1) := by decide +kernel
theorem dL_law_843 : decode cL_law 843 = .ok (.iload_n 3, 1) := by decide +kernel
theorem dL_law_844 : decode cL_law 844 = .ok (.iconst 3, 1) := by decide +kernel
theorem dL_law_845 : decode cL_law 845 = .ok (.iadd, 1) := by decide +kernel
theorem dL_law_846 : decode cL_law 846 = .ok (.iaload, 1) := by decide +kernel
theorem dL_law_847 : decode cL_law 847 = .ok (.aload_n 0, 1) := by decide +kernel
theorem dL_law_848 : decode cL_law 848 = .ok (.iload_n 3, 1) := by decide +kernel
theorem dL_law_849 : decode cL_law 849 = .ok (.iconst 4, 1) := by decide +kernel
theorem dL_law_850 : decode cL_law 850 = .ok (.iadd, 1) := by decide +kernel
theorem dL_law_851 : decode cL_law 851 = .ok (.iaload, 1) := by decide +kernel
theorem dL_law_852 : decode cL_law 852 = .ok (.invokevirtual 95, 3) := by decide +kernel
theorem dL_law_855 : decode cL_law 855 = .ok (.aload_n 2, 1) := by decide +kernel
theorem dL_law_856 : decode cL_law 856 = .ok (.aload_n 0, 1) := by decide +kernel
theorem dL_law_857 : decode cL_law 857 = .ok (.iload_n 3, 1) := by decide +kernel
theorem dL_law_858 : decode cL_law 858 = .ok (.iconst 1, 1) := by decide +kernel
theorem dL_law_859 : decode cL_law 859 = .ok (.iadd, 1) := by decide +kernel
theorem dL_law_860 : decode cL_law 860 = .ok (.iaload, 1) := by decide +kernel
theorem dL_law_861 : decode cL_law 861 = .ok (.aload_n 0, 1) := by decide +kernel
theorem dL_law_862 : decode cL_law 862 = .ok (.iload_n 3, 1) := by decide +kernel
theorem dL_law_863 : decode cL_law 863 = .ok (.iconst 2, 1) := by decide +kernel
theorem dL_law_864 : decode cL_law 864 = .ok (.iadd, 1) := by decide +kernel
theorem dL_law_865 : decode cL_law 865 = .ok (.iaload, 1) := by decide +kernel
theorem dL_law_866 : decode cL_law 866 = .ok (.aload_n 0, 1) := by decide +kernel
theorem dL_law_867 : decode cL_law 867 = .ok (.iload_n 3, 1) := by decide +kernel
theorem dL_law_868 : decode cL_law 868 = .ok (.iconst 3, 1) := by decide +kernel
theorem dL_law_869 : decode cL_law 869 = .ok (.iadd, 1) := by decide +kernel
theorem dL_law_870 : decode cL_law 870 = .ok (.iaload, 1) := by decide +kernel
theorem dL_law_871 : decode cL_law 871 = .ok (.aload_n 0, 1) := by decide +kernel
theorem dL_law_872 : decode cL_law 872 = .ok (.iload_n 3, 1) := by decide +kernel
theorem dL_law_873 : decode cL_law 873 = .ok (.iconst 4, 1) := by decide +kernel
theorem dL_law_874 : decode cL_law 874 = .ok (.iadd, 1) := by decide +kernel
theorem dL_law_875 : decode cL_law 875 = .ok (.iaload, 1) := by decide +kernel
theorem dL_law_876 : decode cL_law 876 = .ok (.invokevirtual 98, 3) := by decide +kernel
theorem dL_law_879 : decode cL_law 879 = .ok (.if_icmp .eq 367, 3) := by decide +kernel
theorem dL_law_882 : decode cL_law 882 = .ok (.iconst 0, 1) := by decide +kernel
theorem dL_law_883 : decode cL_law 883 = .ok (.ireturn, 1) := by decide +kernel
theorem dL_law_884 : decode cL_law 884 = .ok (.aload_n 1, 1) := by decide +kernel
theorem dL_law_885 : decode cL_law 885 = .ok (.aload_n 0, 1) := by decide +kernel
theorem dL_law_886 : decode cL_law 886 = .ok (.iload_n 3, 1) := by decide +kernel
theorem dL_law_887 : decode cL_law 887 = .ok (.iconst 1, 1) := by decide +kernel
theorem dL_law_888 : decode cL_law 888 = .ok (.iadd, 1) := by decide +kernel
theorem dL_law_889 : decode cL_law 889 = .ok (.iaload, 1) := by decide +kernel
theorem dL_law_890 : decode cL_law 890 = .ok (.aload_n 0, 1) := by decide +kernel
theorem dL_law_891 : decode cL_law 891 = .ok (.iload_n 3, 1) := by decide +kernel
theorem dL_law_892 : decode cL_law 892 = .ok (.iconst 2, 1) := by decide +kernel
theorem dL_law_893 : decode cL_law 893 = .ok (.iadd, 1) := by decide +kernel
theorem dL_law_894 : decode cL_law 894 = .ok (.iaload, 1) := by decide +kernel
theorem dL_law_895 : decode cL_law 895 = .ok (.invokevirtual 99, 3) := by decide +kernel
theorem dL_law_898 : decode cL_law 898 = .ok (.aload_n 2, 1) := by decide +kernel
theorem dL_law_899 : decode cL_law 899 = .ok (.aload_n 0, 1) := by decide +kernel
theorem dL_law_900 : decode cL_law 900 = .ok (.iload_n 3, 1) := by decide +kernel
theorem dL_law_901 : decode cL_law 901 = .ok (.iconst 1, 1) := by decide +kernel
theorem dL_law_902 : decode cL_law 902 = .ok (.iadd, 1) := by decide +kernel
theorem dL_law_903 : decode cL_law 903 = .ok (.iaload, 1) := by decide +kernel
theorem dL_law_904 : decode cL_law 904 = .ok (.aload_n 0, 1) := by decide +kernel
theorem dL_law_905 : decode cL_law 905 = .ok (.iload_n 3, 1) := by decide +kernel
theorem dL_law_906 : decode cL_law 906 = .ok (.iconst 2, 1) := by decide +kernel
theorem dL_law_907 : decode cL_law 907 = .ok (.iadd, 1) := by decide +kernel
theorem dL_law_908 : decode cL_law 908 = .ok (.iaload, 1) := by decide +kernel
theorem dL_law_909 : decode cL_law 909 = .ok (.invokevirtual 102, 3) := by decide +kernel
theorem dL_law_912 : decode cL_law 912 = .ok (.if_icmp .eq 334, 3) := by decide +kernel
theorem dL_law_915 : decode cL_law 915 = .ok (.iconst 0, 1) := by decide +kernel
theorem dL_law_916 : decode cL_law 916 = .ok (.ireturn, 1) := by decide +kernel
theorem dL_law_917 : decode cL_law 917 = .ok (.aload_n 1, 1) := by decide +kernel
theorem dL_law_918 : decode cL_law 918 = .ok (.aload_n 0, 1) := by decide +kernel
theorem dL_law_919 : decode cL_law 919 = .ok (.iload_n 3, 1) := by decide +kernel
theorem dL_law_920 : decode cL_law 920 = .ok (.iconst 1, 1) := by decide +kernel
theorem dL_law_921 : decode cL_law 921 = .ok (.iadd, 1) := by decide +kernel
theorem dL_law_922 : decode cL_law 922 = .ok (.iaload, 1) := by decide +kernel
theorem dL_law_923 : decode cL_law 923 = .ok (.invokevirtual 103, 3) := by decide +kernel
theorem dL_law_926 : decode cL_law 926 = .ok (.aload_n 2, 1) := by decide +kernel
theorem dL_law_927 : decode cL_law 927 = .ok (.aload_n 0, 1) := by decide +kernel
theorem dL_law_928 : decode cL_law 928 = .ok (.iload_n 3, 1) := by decide +kernel
theorem dL_law_929 : decode cL_law 929 = .ok (.iconst 1, 1) := by decide +kernel
theorem dL_law_930 : decode cL_law 930 = .ok (.iadd, 1) := by decide +kernel
theorem dL_law_931 : decode cL_law 931 = .ok (.iaload, 1) := by decide +kernel
theorem dL_law_932 : decode cL_law 932 = .ok (.invokevirtual 106, 3) := by decide +kernel
theorem dL_law_935 : decode cL_law 935 = .ok (.if_icmp .eq 311, 3) := by decide +kernel
theorem dL_law_938 : decode cL_law 938 = .ok (.iconst 0, 1) := by decide +kernel
theorem dL_law_939 : decode cL_law 939 = .ok (.ireturn, 1) := by decide +kernel
theorem dL_law_940 : decode cL_law 940 = .ok (.aload_n 1, 1) := by decide +kernel
theorem dL_law_941 : decode cL_law 941 = .ok (.aload_n 0, 1) := by decide +kernel
theorem dL_law_942 : decode cL_law 942 = .ok (.iload_n 3, 1) := by decide +kernel
theorem dL_law_943 : decode cL_law 943 = .ok (.iconst 1, 1) := by decide +kernel
theorem dL_law_944 : decode cL_law 944 = .ok (.iadd, 1) := by decide +kernel
theorem dL_law_945 : decode cL_law 945 = .ok (.iaload, 1) := by decide +kernel
theorem dL_law_946 : decode cL_law 946 = .ok (.invokevirtual 107, 3) := by decide +kernel
theorem dL_law_949 : decode cL_law 949 = .ok (.aload_n 2, 1) := by decide +kernel
theorem dL_law_950 : decode cL_law 950 = .ok (.aload_n 0, 1) := by decide +kernel
theorem dL_law_951 : decode cL_law 951 = .ok (.iload_n 3, 1) := by decide +kernel
theorem dL_law_952 : decode cL_law 952 = .ok (.iconst 1, 1) := by decide +kernel
theorem dL_law_953 : decode cL_law 953 = .ok (.iadd, 1) := by decide +kernel
theorem dL_law_954 : decode cL_law 954 = .ok (.iaload, 1) := by decide +kernel
theorem dL_law_955 : decode cL_law 955 = .ok (.invokevirtual 110, 3) := by decide +kernel
theorem dL_law_958 : decode cL_law 958 = .ok (.if_icmp .eq 288, 3) := by decide +kernel
theorem dL_law_961 : decode cL_law 961 = .ok (.iconst 0, 1) := by decide +kernel
theorem dL_law_962 : decode cL_law 962 = .ok (.ireturn, 1) := by decide +kernel
theorem dL_law_963 : decode cL_law 963 = .ok (.aload_n 1, 1) := by decide +kernel
theorem dL_law_964 : decode cL_law 964 = .ok (.aload_n 0, 1) := by decide +kernel
theorem dL_law_965 : decode cL_law 965 = .ok (.iload_n 3, 1) := by decide +kernel
theorem dL_law_966 : decode cL_law 966 = .ok (.iconst 1, 1) := by decide +kernel
theorem dL_law_967 : decode cL_law 967 = .ok (.iadd, 1) := by decide +kernel
theorem dL_law_968 : decode cL_law 968 = .ok (.iaload, 1) := by decide +kernel
theorem dL_law_969 : decode cL_law 969 = .ok (.invokevirtual 111, 3) := by decide +kernel
theorem dL_law_972 : decode cL_law 972 = .ok (.aload_n 2, 1) := by decide +kernel
theorem dL_law_973 : decode cL_law 973 = .ok (.aload_n 0, 1) := by decide +kernel
theorem dL_law_974 : decode cL_law 974 = .ok (.iload_n 3, 1) := by decide +kernel
theorem dL_law_975 : decode cL_law 975 = .ok (.iconst 1, 1) := by decide +kernel
theorem dL_law_976 : decode cL_law 976 = .ok (.iadd, 1) := by decide +kernel
theorem dL_law_977 : decode cL_law 977 = .ok (.iaload, 1) := by decide +kernel
theorem dL_law_978 : decode cL_law 978 = .ok (.invokevirtual 114, 3) := by decide +kernel
theorem dL_law_981 : decode cL_law 981 = .ok (.if_icmp .eq 265, 3) := by decide +kernel
theorem dL_law_984 : decode cL_law 984 = .ok (.iconst 0, 1) := by decide +kernel
theorem dL_law_985 : decode cL_law 985 = .ok (.ireturn, 1) := by decide +kernel
theorem dL_law_986 : decode cL_law 986 = .ok (.aload_n 1, 1) := by decide +kernel
theorem dL_law_987 : decode cL_law 987 = .ok (.aload_n 0, 1) := by decide +kernel
theorem dL_law_988 : decode cL_law 988 = .ok (.iload_n 3, 1) := by decide +kernel
theorem dL_law_989 : decode cL_law 989 = .ok (.iconst 1, 1) := by decide +kernel
theorem dL_law_990 : decode cL_law 990 = .ok (.iadd, 1) := by decide +kernel
theorem dL_law_991 : decode cL_law 991 = .ok (.iaload, 1) := by decide +kernel
theorem dL_law_992 : decode cL_law 992 = .ok (.aload_n 0, 1) := by decide +kernel
theorem dL_law_993 : decode cL_law 993 = .ok (.iload_n 3, 1) := by decide +kernel
theorem dL_law_994 : decode cL_law 994 = .ok (.iconst 2, 1) := by decide +kernel
theorem dL_law_995 : decode cL_law 995 = .ok (.iadd, 1) := by decide +kernel
theorem dL_law_996 : decode cL_law 996 = .ok (.iaload, 1) := by decide +kernel
theorem dL_law_997 : decode cL_law 997 = .ok (.invokevirtual 115, 3) := by decide +kernel
theorem dL_law_1000 : decode cL_law 1000 = .ok (.aload_n 2, 1) := by decide +kernel
theorem dL_law_1001 : decode cL_law 1001 = .ok (.aload_n 0, 1) := by decide +kernel
theorem dL_law_1002 : decode cL_law 1002 = .ok (.iload_n 3, 1) := by decide +kernel
theorem dL_law_1003 : decode cL_law 1003 = .ok (.iconst 1, 1) := by decide +kernel
theorem dL_law_1004 : decode cL_law 1004 = .ok (.iadd, 1) := by decide +kernel
theorem dL_law_1005 : decode cL_law 1005 = .ok (.iaload, 1) := by decide +kernel
theorem dL_law_1006 : decode cL_law 1006 = .ok (.aload_n 0, 1) := by decide +kernel
theorem dL_law_1007 : decode cL_law 1007 = .ok (.iload_n 3, 1) := by decide +kernel
theorem dL_law_1008 : decode cL_law 1008 = .ok (.iconst 2, 1) := by decide +kernel
theorem dL_law_1009 : decode cL_law 1009 = .ok (.iadd, 1) := by decide +kernel
theorem dL_law_1010 : decode cL_law 1010 = .ok (.iaload, 1) := by decide +kernel
theorem dL_law_1011 : decode cL_law 1011 = .ok (.invokevirtual 118, 3) := by decide +kernel
theorem dL_law_1014 : decode cL_law 1014 = .ok (.if_icmp .eq 232, 3) := by decide +kernel
theorem dL_law_1017 : decode cL_law 1017 = .ok (.iconst 0, 1) := by decide +kernel
theorem dL_law_1018 : decode cL_law 1018 = .ok (.ireturn, 1) := by decide +kernel
theorem dL_law_1019 : decode cL_law 1019 = .ok (.aload_n 1, 1) := by decide +kernel
theorem dL_law_1020 : decode cL_law 1020 = .ok (.aload_n 0, 1) := by decide +kernel
theorem dL_law_1021 : decode cL_law 1021 = .ok (.iload_n 3, 1) := by decide +kernel
theorem dL_law_1022 : decode cL_law 1022 = .ok (.iconst 1, 1) := by decide +kernel
theorem dL_law_1023 : decode cL_law 1023 = .ok (.iadd, 1) := by decide +kernel
theorem dL_law_1024 : decode cL_law 1024 = .ok (.iaload, 1) := by decide +kernel
theorem dL_law_1025 : decode cL_law 1025 = .ok (.invokevirtual 119, 3) := by decide +kernel
theorem dL_law_1028 : decode cL_law 1028 = .ok (.aload_n 2, 1) := by decide +kernel
theorem dL_law_1029 : decode cL_law 1029 = .ok (.aload_n 0, 1) := by decide +kernel
theorem dL_law_1030 : decode cL_law 1030 = .ok (.iload_n 3, 1) := by decide +kernel
theorem dL_law_1031 : decode cL_law 1031 = .ok (.iconst 1, 1) := by decide +kernel
theorem dL_law_1032 : decode cL_law 1032 = .ok (.iadd, 1) := by decide +kernel
theorem dL_law_1033 : decode cL_law 1033 = .ok (.iaload, 1) := by decide +kernel
theorem dL_law_1034 : decode cL_law 1034 = .ok (.invokevirtual 122, 3) := by decide +kernel
theorem dL_law_1037 : decode cL_law 1037 = .ok (.if_icmp .eq 209, 3) := by decide +kernel
theorem dL_law_1040 : decode cL_law 1040 = .ok (.iconst 0, 1) := by decide +kernel
theorem dL_law_1041 : decode cL_law 1041 = .ok (.ireturn, 1) := by decide +kernel
theorem dL_law_1042 : decode cL_law 1042 = .ok (.aload_n 1, 1) := by decide +kernel
theorem dL_law_1043 : decode cL_law 1043 = .ok (.aload_n 0, 1) := by decide +kernel
theorem dL_law_1044 : decode cL_law 1044 = .ok (.iload_n 3, 1) := by decide +kernel
theorem dL_law_1045 : decode cL_law 1045 = .ok (.iconst 1, 1) := by decide +kernel
theorem dL_law_1046 : decode cL_law 1046 = .ok (.iadd, 1) := by decide +kernel
theorem dL_law_1047 : decode cL_law 1047 = .ok (.iaload, 1) := by decide +kernel
theorem dL_law_1048 : decode cL_law 1048 = .ok (.invokevirtual 123, 3) := by decide +kernel
theorem dL_law_1051 : decode cL_law 1051 = .ok (.aload_n 2, 1) := by decide +kernel
theorem dL_law_1052 : decode cL_law 1052 = .ok (.aload_n 0, 1) := by decide +kernel
theorem dL_law_1053 : decode cL_law 1053 = .ok (.iload_n 3, 1) := by decide +kernel
theorem dL_law_1054 : decode cL_law 1054 = .ok (.iconst 1, 1) := by decide +kernel
theorem dL_law_1055 : decode cL_law 1055 = .ok (.iadd, 1) := by decide +kernel
theorem dL_law_1056 : decode cL_law 1056 = .ok (.iaload, 1) := by decide +kernel
theorem dL_law_1057 : decode cL_law 1057 = .ok (.invokevirtual 126, 3) := by decide +kernel
theorem dL_law_1060 : decode cL_law 1060 = .ok (.if_icmp .eq 186, 3) := by decide +kernel
theorem dL_law_1063 : decode cL_law 1063 = .ok (.iconst 0, 1) := by decide +kernel
theorem dL_law_1064 : decode cL_law 1064 = .ok (.ireturn, 1) := by decide +kernel
theorem dL_law_1065 : decode cL_law 1065 = .ok (.aload_n 1, 1) := by decide +kernel
theorem dL_law_1066 : decode cL_law 1066 = .ok (.aload_n 0, 1) := by decide +kernel
theorem dL_law_1067 : decode cL_law 1067 = .ok (.iload_n 3, 1) := by decide +kernel
theorem dL_law_1068 : decode cL_law 1068 = .ok (.iconst 1, 1) := by decide +kernel
theorem dL_law_1069 : decode cL_law 1069 = .ok (.iadd, 1) := by decide +kernel
theorem dL_law_1070 : decode cL_law 1070 = .ok (.iaload, 1) := by decide +kernel
theorem dL_law_1071 : decode cL_law 1071 = .ok (.aload_n 0, 1) := by decide +kernel
theorem dL_law_1072 : decode cL_law 1072 = .ok (.iload_n 3, 1) := by decide +kernel
theorem dL_law_1073 : decode cL_law 1073 = .ok (.iconst 2, 1) := by decide +kernel
theorem dL_law_1074 : decode cL_law 1074 = .ok (.iadd, 1) := by decide +kernel
theorem dL_law_1075 : decode cL_law 1075 = .ok (.iaload, 1) := by decide +kernel
theorem dL_law_1076 : decode cL_law 1076 = .ok (.aload_n 0, 1) := by decide +kernel
theorem dL_law_1077 : decode cL_law 1077 = .ok (.iload_n 3, 1) := by decide +kernel
theorem dL_law_1078 : decode cL_law 1078 = .ok (.iconst 3, 1) := by decide +kernel
theorem dL_law_1079 : decode cL_law 1079 = .ok (.iadd, 1) := by decide +kernel
theorem dL_law_1080 : decode cL_law 1080 = .ok (.iaload, 1) := by decide +kernel
theorem dL_law_1081 : decode cL_law 1081 = .ok (.invokevirtual 127, 3) := by decide +kernel
theorem dL_law_1084 : decode cL_law 1084 = .ok (.aload_n 2, 1) := by decide +kernel
theorem dL_law_1085 : decode cL_law 1085 = .ok (.aload_n 0, 1) := by decide +kernel
theorem dL_law_1086 : decode cL_law 1086 = .ok (.iload_n 3, 1) := by decide +kernel
theorem dL_law_1087 : decode cL_law 1087 = .ok (.iconst 1, 1) := by decide +kernel
theorem dL_law_1088 : decode cL_law 1088 = .ok (.iadd, 1) := by decide +kernel
theorem dL_law_1089 : decode cL_law 1089 = .ok (.iaload, 1) := by decide +kernel
theorem dL_law_1090 : decode cL_law 1090 = .ok (.aload_n 0, 1) := by decide +kernel
theorem dL_law_1091 : decode cL_law 1091 = .ok (.iload_n 3, 1) := by decide +kernel
theorem dL_law_1092 : decode cL_law 1092 = .ok (.iconst 2, 1) := by decide +kernel
theorem dL_law_1093 : decode cL_law 1093 = .ok (.iadd, 1) := by decide +kernel
theorem dL_law_1094 : decode cL_law 1094 = .ok (.iaload, 1) := by decide +kernel
theorem dL_law_1095 : decode cL_law 1095 = .ok (.aload_n 0, 1) := by decide +kernel
theorem dL_law_1096 : decode cL_law 1096 = .ok (.iload_n 3, 1) := by decide +kernel
theorem dL_law_1097 : decode cL_law 1097 = .ok (.iconst 3, 1) := by decide +kernel
theorem dL_law_1098 : decode cL_law 1098 = .ok (.iadd, 1) := by decide +kernel
theorem dL_law_1099 : decode cL_law 1099 = .ok (.iaload, 1) := by decide +kernel
theorem dL_law_1100 : decode cL_law 1100 = .ok (.invokevirtual 130, 3) := by decide +kernel
theorem dL_law_1103 : decode cL_law 1103 = .ok (.if_icmp .eq 143, 3) := by decide +kernel
theorem dL_law_1106 : decode cL_law 1106 = .ok (.iconst 0, 1) := by decide +kernel
theorem dL_law_1107 : decode cL_law 1107 = .ok (.ireturn, 1) := by decide +kernel
theorem dL_law_1108 : decode cL_law 1108 = .ok (.aload_n 1, 1) := by decide +kernel
theorem dL_law_1109 : decode cL_law 1109 = .ok (.aload_n 0, 1) := by decide +kernel
theorem dL_law_1110 : decode cL_law 1110 = .ok (.iload_n 3, 1) := by decide +kernel
theorem dL_law_1111 : decode cL_law 1111 = .ok (.iconst 1, 1) := by decide +kernel
theorem dL_law_1112 : decode cL_law 1112 = .ok (.iadd, 1) := by decide +kernel
theorem dL_law_1113 : decode cL_law 1113 = .ok (.iaload, 1) := by decide +kernel
theorem dL_law_1114 : decode cL_law 1114 = .ok (.aload_n 0, 1) := by decide +kernel
theorem dL_law_1115 : decode cL_law 1115 = .ok (.iload_n 3, 1) := by decide +kernel
theorem dL_law_1116 : decode cL_law 1116 = .ok (.iconst 2, 1) := by decide +kernel
theorem dL_law_1117 : decode cL_law 1117 = .ok (.iadd, 1) := by decide +kernel
theorem dL_law_1118 : decode cL_law 1118 = .ok (.iaload, 1) := by decide +kernel
theorem dL_law_1119 : decode cL_law 1119 = .ok (.invokevirtual 131, 3) := by decide +kernel
theorem dL_law_1122 : decode cL_law 1122 = .ok (.aload_n 2, 1) := by decide +kernel
theorem dL_law_1123 : decode cL_law 1123 = .ok (.aload_n 0, 1) := by decide +kernel
theorem dL_law_1124 : decode cL_law 1124 = .ok (.iload_n 3, 1) := by decide +kernel
theorem dL_law_1125 : decode cL_law 1125 = .ok (.iconst 1, 1) := by decide +kernel
theorem dL_law_1126 : decode cL_law 1126 = .ok (.iadd, 1) := by decide +kernel
theorem dL_law_1127 : decode cL_law 1127 = .ok (.iaload, 1) := by decide +kernel
theorem dL_law_1128 : decode cL_law 1128 = .ok (.aload_n 0, 1) := by decide +kernel
theorem dL_law_1129 : decode cL_law 1129 = .ok (.iload_n 3, 1) := by decide +kernel
theorem dL_law_1130 : decode cL_law 1130 = .ok (.iconst 2, 1) := by decide +kernel
theorem dL_law_1131 : decode cL_law 1131 = .ok (.iadd, 1) := by decide +kernel
theorem dL_law_1132 : decode cL_law 1132 = .ok (.iaload, 1) := by decide +kernel
theorem dL_law_1133 : decode cL_law 1133 = .ok (.invokevirtual 134, 3) := by decide +kernel
theorem dL_law_1136 : decode cL_law 1136 = .ok (.if_icmp .eq 110, 3) := by decide +kernel
theorem dL_law_1139 : decode cL_law 1139 = .ok (.iconst 0, 1) := by decide +kernel
theorem dL_law_1140 : decode cL_law 1140 = .ok (.ireturn, 1) := by decide +kernel
theorem dL_law_1141 : decode cL_law 1141 = .ok (.aload_n 1, 1) := by decide +kernel
theorem dL_law_1142 : decode cL_law 1142 = .ok (.invokevirtual 135, 3) := by decide +kernel
theorem dL_law_1145 : decode cL_law 1145 = .ok (.aload_n 2, 1) := by decide +kernel
theorem dL_law_1146 : decode cL_law 1146 = .ok (.invokevirtual 138, 3) := by decide +kernel
theorem dL_law_1149 : decode cL_law 1149 = .ok (.if_icmp .eq 97, 3) := by decide +kernel
theorem dL_law_1152 : decode cL_law 1152 = .ok (.iconst 0, 1) := by decide +kernel
theorem dL_law_1153 : decode cL_law 1153 = .ok (.ireturn, 1) := by decide +kernel
theorem dL_law_1154 : decode cL_law 1154 = .ok (.aload_n 1, 1) := by decide +kernel
theorem dL_law_1155 : decode cL_law 1155 = .ok (.aload_n 0, 1) := by decide +kernel
theorem dL_law_1156 : decode cL_law 1156 = .ok (.iload_n 3, 1) := by decide +kernel
theorem dL_law_1157 : decode cL_law 1157 = .ok (.iconst 1, 1) := by decide +kernel
theorem dL_law_1158 : decode cL_law 1158 = .ok (.iadd, 1) := by decide +kernel
theorem dL_law_1159 : decode cL_law 1159 = .ok (.iaload, 1) := by decide +kernel
theorem dL_law_1160 : decode cL_law 1160 = .ok (.invokevirtual 139, 3) := by decide +kernel
theorem dL_law_1163 : decode cL_law 1163 = .ok (.aload_n 2, 1) := by decide +kernel
theorem dL_law_1164 : decode cL_law 1164 = .ok (.aload_n 0, 1) := by decide +kernel
theorem dL_law_1165 : decode cL_law 1165 = .ok (.iload_n 3, 1) := by decide +kernel
theorem dL_law_1166 : decode cL_law 1166 = .ok (.iconst 1, 1) := by decide +kernel
theorem dL_law_1167 : decode cL_law 1167 = .ok (.iadd, 1) := by decide +kernel
theorem dL_law_1168 : decode cL_law 1168 = .ok (.iaload, 1) := by decide +kernel
theorem dL_law_1169 : decode cL_law 1169 = .ok (.invokevirtual 142, 3) := by decide +kernel
theorem dL_law_1172 : decode cL_law 1172 = .ok (.if_icmp .eq 74, 3) := by decide +kernel
theorem dL_law_1175 : decode cL_law 1175 = .ok (.iconst 0, 1) := by decide +kernel
theorem dL_law_1176 : decode cL_law 1176 = .ok (.ireturn, 1) := by decide +kernel
theorem dL_law_1177 : decode cL_law 1177 = .ok (.aload_n 1, 1) := by decide +kernel
theorem dL_law_1178 : decode cL_law 1178 = .ok (.aload_n 0, 1) := by decide +kernel
theorem dL_law_1179 : decode cL_law 1179 = .ok (.iload_n 3, 1) := by decide +kernel
theorem dL_law_1180 : decode cL_law 1180 = .ok (.iconst 1, 1) := by decide +kernel
theorem dL_law_1181 : decode cL_law 1181 = .ok (.iadd, 1) := by decide +kernel
theorem dL_law_1182 : decode cL_law 1182 = .ok (.iaload, 1) := by decide +kernel
theorem dL_law_1183 : decode cL_law 1183 = .ok (.invokevirtual 143, 3) := by decide +kernel
theorem dL_law_1186 : decode cL_law 1186 = .ok (.aload_n 2, 1) := by decide +kernel
theorem dL_law_1187 : decode cL_law 1187 = .ok (.aload_n 0, 1) := by decide +kernel
theorem dL_law_1188 : decode cL_law 1188 = .ok (.iload_n 3, 1) := by decide +kernel
theorem dL_law_1189 : decode cL_law 1189 = .ok (.iconst 1, 1) := by decide +kernel
theorem dL_law_1190 : decode cL_law 1190 = .ok (.iadd, 1) := by decide +kernel
theorem dL_law_1191 : decode cL_law 1191 = .ok (.iaload, 1) := by decide +kernel
theorem dL_law_1192 : decode cL_law 1192 = .ok (.invokevirtual 146, 3) := by decide +kernel
theorem dL_law_1195 : decode cL_law 1195 = .ok (.if_icmp .eq 51, 3) := by decide +kernel
theorem dL_law_1198 : decode cL_law 1198 = .ok (.iconst 0, 1) := by decide +kernel
theorem dL_law_1199 : decode cL_law 1199 = .ok (.ireturn, 1) := by decide +kernel
theorem dL_law_1200 : decode cL_law 1200 = .ok (.aload_n 1, 1) := by decide +kernel
theorem dL_law_1201 : decode cL_law 1201 = .ok (.aload_n 0, 1) := by decide +kernel
theorem dL_law_1202 : decode cL_law 1202 = .ok (.iload_n 3, 1) := by decide +kernel
theorem dL_law_1203 : decode cL_law 1203 = .ok (.iconst 1, 1) := by decide +kernel
theorem dL_law_1204 : decode cL_law 1204 = .ok (.iadd, 1) := by decide +kernel
theorem dL_law_1205 : decode cL_law 1205 = .ok (.iaload, 1) := by decide +kernel
theorem dL_law_1206 : decode cL_law 1206 = .ok (.invokevirtual 147, 3) := by decide +kernel
theorem dL_law_1209 : decode cL_law 1209 = .ok (.aload_n 2, 1) := by decide +kernel
theorem dL_law_1210 : decode cL_law 1210 = .ok (.aload_n 0, 1) := by decide +kernel
theorem dL_law_1211 : decode cL_law 1211 = .ok (.iload_n 3, 1) := by decide +kernel
theorem dL_law_1212 : decode cL_law 1212 = .ok (.iconst 1, 1) := by decide +kernel
theorem dL_law_1213 : decode cL_law 1213 = .ok (.iadd, 1) := by decide +kernel
theorem dL_law_1214 : decode cL_law 1214 = .ok (.iaload, 1) := by decide +kernel
theorem dL_law_1215 : decode cL_law 1215 = .ok (.invokevirtual 150, 3) := by decide +kernel
theorem dL_law_1218 : decode cL_law 1218 = .ok (.if_icmp .eq 28, 3) := by decide +kernel
theorem dL_law_1221 : decode cL_law 1221 = .ok (.iconst 0, 1) := by decide +kernel
theorem dL_law_1222 : decode cL_law 1222 = .ok (.ireturn, 1) := by decide +kernel
theorem dL_law_1223 : decode cL_law 1223 = .ok (.aload_n 1, 1) := by decide +kernel
theorem dL_law_1224 : decode cL_law 1224 = .ok (.aload_n 0, 1) := by decide +kernel
theorem dL_law_1225 : decode cL_law 1225 = .ok (.iload_n 3, 1) := by decide +kernel
theorem dL_law_1226 : decode cL_law 1226 = .ok (.iconst 1, 1) := by decide +kernel
theorem dL_law_1227 : decode cL_law 1227 = .ok (.iadd, 1) := by decide +kernel
theorem dL_law_1228 : decode cL_law 1228 = .ok (.iaload, 1) := by decide +kernel
theorem dL_law_1229 : decode cL_law 1229 = .ok (.invokevirtual 151, 3) := by decide +kernel
theorem dL_law_1232 : decode cL_law 1232 = .ok (.aload_n 2, 1) := by decide +kernel
theorem dL_law_1233 : decode cL_law 1233 = .ok (.aload_n 0, 1) := by decide +kernel
theorem dL_law_1234 : decode cL_law 1234 = .ok (.iload_n 3, 1) := by decide +kernel
theorem dL_law_1235 : decode cL_law 1235 = .ok (.iconst 1, 1) := by decide +kernel
theorem dL_law_1236 : decode cL_law 1236 = .ok (.iadd, 1) := by decide +kernel
theorem dL_law_1237 : decode cL_law 1237 = .ok (.iaload, 1) := by decide +kernel
theorem dL_law_1238 : decode cL_law 1238 = .ok (.invokevirtual 154, 3) := by decide +kernel
theorem dL_law_1241 : decode cL_law 1241 = .ok (.if_icmp .eq 5, 3) := by decide +kernel
theorem dL_law_1244 : decode cL_law 1244 = .ok (.iconst 0, 1) := by decide +kernel
theorem dL_law_1245 : decode cL_law 1245 = .ok (.ireturn, 1) := by decide +kernel
theorem dL_law_1246 : decode cL_law 1246 = .ok (.iinc 3 6, 3) := by decide +kernel
theorem dL_law_1249 : decode cL_law 1249 = .ok (.goto (-1231), 3) := by decide +kernel
theorem dL_law_1252 : decode cL_law 1252 = .ok (.iconst 1, 1) := by decide +kernel
theorem dL_law_1253 : decode cL_law 1253 = .ok (.ireturn, 1) := by decide +kernel
