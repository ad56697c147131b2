theorem dX0_init_0 : decode cX0_init 0 = .ok (.aload_n 0, 1) := by decide +kernel
theorem dX0_init_1 : decode cX0_init 1 = .ok (.invokespecial 3, 3) := by decide +kernel
theorem dX0_init_4 : decode cX0_init 4 = .ok (.aload_n 0, 1) := by decide +kernel
theorem dX0_init_5 : decode cX0_init 5 = .ok (.bipush 8, 2) := by decide +kernel
theorem dX0_init_7 : decode cX0_init 7 = .ok (.anewarray 9, 3) := by decide +kernel
theorem dX0_init_10 : decode cX0_init 10 = .ok (.putfield 11, 3) := by decide +kernel
theorem dX0_init_13 : decode cX0_init 13 = .ok (.aload_n 0, 1) := by decide +kernel
theorem dX0_init_14 : decode cX0_init 14 = .ok (.iconst 0, 1) := by decide +kernel
theorem dX0_init_15 : decode cX0_init 15 = .ok (.putfield 17, 3) := by decide +kernel
theorem dX0_init_18 : decode cX0_init 18 = .ok (.aload_n 0, 1) := by decide +kernel
theorem dX0_init_19 : decode cX0_init 19 = .ok (.bipush 12, 2) := by decide +kernel
theorem dX0_init_21 : decode cX0_init 21 = .ok (.anewarray 21, 3) := by decide +kernel
theorem dX0_init_24 : decode cX0_init 24 = .ok (.putfield 23, 3) := by decide +kernel
theorem dX0_init_27 : decode cX0_init 27 = .ok (.aload_n 0, 1) := by decide +kernel
theorem dX0_init_28 : decode cX0_init 28 = .ok (.iconst 0, 1) := by decide +kernel
theorem dX0_init_29 : decode cX0_init 29 = .ok (.putfield 27, 3) := by decide +kernel
theorem dX0_init_32 : decode cX0_init 32 = .ok (.aload_n 0, 1) := by decide +kernel
theorem dX0_init_33 : decode cX0_init 33 = .ok (.iconst 2, 1) := by decide +kernel
theorem dX0_init_34 : decode cX0_init 34 = .ok (.anewarray 30, 3) := by decide +kernel
theorem dX0_init_37 : decode cX0_init 37 = .ok (.putfield 32, 3) := by decide +kernel
theorem dX0_init_40 : decode cX0_init 40 = .ok (.iconst 0, 1) := by decide +kernel
theorem dX0_init_41 : decode cX0_init 41 = .ok (.istore_n 1, 1) := by decide +kernel
theorem dX0_init_42 : decode cX0_init 42 = .ok (.iload_n 1, 1) := by decide +kernel
theorem dX0_init_43 : decode cX0_init 43 = .ok (.bipush 8, 2) := by decide +kernel
theorem dX0_init_45 : decode cX0_init 45 = .ok (.if_icmp .ge 22, 3) := by decide +kernel
theorem dX0_init_48 : decode cX0_init 48 = .ok (.aload_n 0, 1) := by decide +kernel
theorem dX0_init_49 : decode cX0_init 49 = .ok (.getfield 11, 3) := by decide +kernel
theorem dX0_init_52 : decode cX0_init 52 = .ok (.iload_n 1, 1) := by decide +kernel
theorem dX0_init_53 : decode cX0_init 53 = .ok (.new 9, 3) := by decide +kernel
theorem dX0_init_56 : decode cX0_init 56 = .ok (.dup, 1) := by decide +kernel
theorem dX0_init_57 : decode cX0_init 57 = .ok (.invokespecial 36, 3) := by decide +kernel
theorem dX0_init_60 : decode cX0_init 60 = .ok (.aastore, 1) := by decide +kernel
theorem dX0_init_61 : decode cX0_init 61 = .ok (.iinc 1 1, 3) := by decide +kernel
theorem dX0_init_64 : decode cX0_init 64 = .ok (.goto (-22), 3) := by decide +kernel
theorem dX0_init_67 : decode cX0_init 67 = .ok (.iconst 0, 1) := by decide +kernel
theorem dX0_init_68 : decode cX0_init 68 = .ok (.istore_n 1, 1) := by decide +kernel
theorem dX0_init_69 : decode cX0_init 69 = .ok (.iload_n 1, 1) := by decide +kernel
theorem dX0_init_70 : decode cX0_init 70 = .ok (.bipush 12, 2) := by decide +kernel
theorem dX0_init_72 : decode cX0_init 72 = .ok (.if_icmp .ge 22, 3) := by decide +kernel
theorem dX0_init_75 : decode cX0_init 75 = .ok (.aload_n 0, 1) := by decide +kernel
theorem dX0_init_76 : decode cX0_init 76 = .ok (.getfield 23, 3) := by decide +kernel
theorem dX0_init_79 : decode cX0_init 79 = .ok (.iload_n 1, 1) := by decide +kernel
theorem dX0_init_80 : decode cX0_init 80 = .ok (.new 21, 3) := by decide +kernel
theorem dX0_init_83 : decode cX0_init 83 = .ok (.dup, 1) := by decide +kernel
theorem dX0_init_84 : decode cX0_init 84 = .ok (.invokespecial 37, 3) := by decide +kernel
theorem dX0_init_87 : decode cX0_init 87 = .ok (.aastore, 1) := by decide +kernel
theorem dX0_init_88 : decode cX0_init 88 = .ok (.iinc 1 1, 3) := by decide +kernel
theorem dX0_init_91 : decode cX0_init 91 = .ok (.goto (-22), 3) := by decide +kernel
theorem dX0_init_94 : decode cX0_init 94 = .ok (.iconst 0, 1) := by decide +kernel
theorem dX0_init_95 : decode cX0_init 95 = .ok (.istore_n 1, 1) := by decide +kernel
theorem dX0_init_96 : decode cX0_init 96 = .ok (.iload_n 1, 1) := by decide +kernel
theorem dX0_init_97 : decode cX0_init 97 = .ok (.iconst 2, 1) := by decide +kernel
theorem dX0_init_98 : decode cX0_init 98 = .ok (.if_icmp .ge 22, 3) := by decide +kernel
theorem dX0_init_101 : decode cX0_init 101 = .ok (.aload_n 0, 1) := by decide +kernel
theorem dX0_init_102 : decode cX0_init 102 = .ok (.getfield 32, 3) := by decide +kernel
theorem dX0_init_105 : decode cX0_init 105 = .ok (.iload_n 1, 1) := by decide +kernel
theorem dX0_init_106 : decode cX0_init 106 = .ok (.new 30, 3) := by decide +kernel
theorem dX0_init_109 : decode cX0_init 109 = .ok (.dup, 1) := by decide +kernel
theorem dX0_init_110 : decode cX0_init 110 = .ok (.invokespecial 38, 3) := by decide +kernel
theorem dX0_init_113 : decode cX0_init 113 = .ok (.aastore, 1) := by decide +kernel
theorem dX0_init_114 : decode cX0_init 114 = .ok (.iinc 1 1, 3) := by decide +kernel
theorem dX0_init_117 : decode cX0_init 117 = .ok (.goto (-21), 3) := by decide +kernel
theorem dX0_init_120 : decode cX0_init 120 = .ok (.return_, 1) := by decide +kernel
theorem dX0_addPayment_0 : decode cX0_addPayment 0 = .ok (.aload_n 0, 1) := by decide +kernel
theorem dX0_addPayment_1 : decode cX0_addPayment 1 = .ok (.getfield 27, 3) := by decide +kernel
theorem dX0_addPayment_4 : decode cX0_addPayment 4 = .ok (.bipush 12, 2) := by decide +kernel
theorem dX0_addPayment_6 : decode cX0_addPayment 6 = .ok (.if_icmp .ge 43, 3) := by decide +kernel
theorem dX0_addPayment_9 : decode cX0_addPayment 9 = .ok (.aload_n 0, 1) := by decide +kernel
theorem dX0_addPayment_10 : decode cX0_addPayment 10 = .ok (.getfield 23, 3) := by decide +kernel
theorem dX0_addPayment_13 : decode cX0_addPayment 13 = .ok (.aload_n 0, 1) := by decide +kernel
theorem dX0_addPayment_14 : decode cX0_addPayment 14 = .ok (.getfield 27, 3) := by decide +kernel
theorem dX0_addPayment_17 : decode cX0_addPayment 17 = .ok (.aaload, 1) := by decide +kernel
theorem dX0_addPayment_18 : decode cX0_addPayment 18 = .ok (.astore_n 3, 1) := by decide +kernel
theorem dX0_addPayment_19 : decode cX0_addPayment 19 = .ok (.aload_n 3, 1) := by decide +kernel
theorem dX0_addPayment_20 : decode cX0_addPayment 20 = .ok (.iload_n 1, 1) := by decide +kernel
theorem dX0_addPayment_21 : decode cX0_addPayment 21 = .ok (.putfield 39, 3) := by decide +kernel
theorem dX0_addPayment_24 : decode cX0_addPayment 24 = .ok (.aload_n 3, 1) := by decide +kernel
theorem dX0_addPayment_25 : decode cX0_addPayment 25 = .ok (.iload_n 2, 1) := by decide +kernel
theorem dX0_addPayment_26 : decode cX0_addPayment 26 = .ok (.putfield 42, 3) := by decide +kernel
theorem dX0_addPayment_29 : decode cX0_addPayment 29 = .ok (.aload_n 3, 1) := by decide +kernel
theorem dX0_addPayment_30 : decode cX0_addPayment 30 = .ok (.iconst (-1), 1) := by decide +kernel
theorem dX0_addPayment_31 : decode cX0_addPayment 31 = .ok (.putfield 45, 3) := by decide +kernel
theorem dX0_addPayment_34 : decode cX0_addPayment 34 = .ok (.aload_n 3, 1) := by decide +kernel
theorem dX0_addPayment_35 : decode cX0_addPayment 35 = .ok (.iconst (-1), 1) := by decide +kernel
theorem dX0_addPayment_36 : decode cX0_addPayment 36 = .ok (.putfield 48, 3) := by decide +kernel
theorem dX0_addPayment_39 : decode cX0_addPayment 39 = .ok (.aload_n 0, 1) := by decide +kernel
theorem dX0_addPayment_40 : decode cX0_addPayment 40 = .ok (.dup, 1) := by decide +kernel
theorem dX0_addPayment_41 : decode cX0_addPayment 41 = .ok (.getfield 27, 3) := by decide +kernel
theorem dX0_addPayment_44 : decode cX0_addPayment 44 = .ok (.iconst 1, 1) := by decide +kernel
theorem dX0_addPayment_45 : decode cX0_addPayment 45 = .ok (.iadd, 1) := by decide +kernel
theorem dX0_addPayment_46 : decode cX0_addPayment 46 = .ok (.putfield 27, 3) := by decide +kernel
theorem dX0_addPayment_49 : decode cX0_addPayment 49 = .ok (.return_, 1) := by decide +kernel
theorem dX0_debtsWithAtLeast_0 : decode cX0_debtsWithAtLeast 0 = .ok (.iconst 0, 1) := by decide +kernel
theorem dX0_debtsWithAtLeast_1 : decode cX0_debtsWithAtLeast 1 = .ok (.istore_n 3, 1) := by decide +kernel
theorem dX0_debtsWithAtLeast_2 : decode cX0_debtsWithAtLeast 2 = .ok (.iconst 0, 1) := by decide +kernel
theorem dX0_debtsWithAtLeast_3 : decode cX0_debtsWithAtLeast 3 = .ok (.istore 4, 2) := by decide +kernel
theorem dX0_debtsWithAtLeast_5 : decode cX0_debtsWithAtLeast 5 = .ok (.iload 4, 2) := by decide +kernel
theorem dX0_debtsWithAtLeast_7 : decode cX0_debtsWithAtLeast 7 = .ok (.aload_n 0, 1) := by decide +kernel
theorem dX0_debtsWithAtLeast_8 : decode cX0_debtsWithAtLeast 8 = .ok (.getfield 17, 3) := by decide +kernel
theorem dX0_debtsWithAtLeast_11 : decode cX0_debtsWithAtLeast 11 = .ok (.if_icmp .ge 28, 3) := by decide +kernel
theorem dX0_debtsWithAtLeast_14 : decode cX0_debtsWithAtLeast 14 = .ok (.aload_n 0, 1) := by decide +kernel
theorem dX0_debtsWithAtLeast_15 : decode cX0_debtsWithAtLeast 15 = .ok (.getfield 11, 3) := by decide +kernel
theorem dX0_debtsWithAtLeast_18 : decode cX0_debtsWithAtLeast 18 = .ok (.iload 4, 2) := by decide +kernel
theorem dX0_debtsWithAtLeast_20 : decode cX0_debtsWithAtLeast 20 = .ok (.aaload, 1) := by decide +kernel
theorem dX0_debtsWithAtLeast_21 : decode cX0_debtsWithAtLeast 21 = .ok (.getfield 51, 3) := by decide +kernel
theorem dX0_debtsWithAtLeast_24 : decode cX0_debtsWithAtLeast 24 = .ok (.iload_n 1, 1) := by decide +kernel
theorem dX0_debtsWithAtLeast_25 : decode cX0_debtsWithAtLeast 25 = .ok (.iaload, 1) := by decide +kernel
theorem dX0_debtsWithAtLeast_26 : decode cX0_debtsWithAtLeast 26 = .ok (.iload_n 2, 1) := by decide +kernel
theorem dX0_debtsWithAtLeast_27 : decode cX0_debtsWithAtLeast 27 = .ok (.if_icmp .lt 6, 3) := by decide +kernel
theorem dX0_debtsWithAtLeast_30 : decode cX0_debtsWithAtLeast 30 = .ok (.iinc 3 1, 3) := by decide +kernel
theorem dX0_debtsWithAtLeast_33 : decode cX0_debtsWithAtLeast 33 = .ok (.iinc 4 1, 3) := by decide +kernel
theorem dX0_debtsWithAtLeast_36 : decode cX0_debtsWithAtLeast 36 = .ok (.goto (-31), 3) := by decide +kernel
theorem dX0_debtsWithAtLeast_39 : decode cX0_debtsWithAtLeast 39 = .ok (.iload_n 3, 1) := by decide +kernel
theorem dX0_debtsWithAtLeast_40 : decode cX0_debtsWithAtLeast 40 = .ok (.ireturn, 1) := by decide +kernel
theorem dX0_copyFrom_0 : decode cX0_copyFrom 0 = .ok (.aload_n 0, 1) := by decide +kernel
theorem dX0_copyFrom_1 : decode cX0_copyFrom 1 = .ok (.aload_n 1, 1) := by decide +kernel
theorem dX0_copyFrom_2 : decode cX0_copyFrom 2 = .ok (.getfield 17, 3) := by decide +kernel
theorem dX0_copyFrom_5 : decode cX0_copyFrom 5 = .ok (.putfield 17, 3) := by decide +kernel
theorem dX0_copyFrom_8 : decode cX0_copyFrom 8 = .ok (.iconst 0, 1) := by decide +kernel
theorem dX0_copyFrom_9 : decode cX0_copyFrom 9 = .ok (.istore_n 2, 1) := by decide +kernel
theorem dX0_copyFrom_10 : decode cX0_copyFrom 10 = .ok (.iload_n 2, 1) := by decide +kernel
theorem dX0_copyFrom_11 : decode cX0_copyFrom 11 = .ok (.aload_n 0, 1) := by decide +kernel
theorem dX0_copyFrom_12 : decode cX0_copyFrom 12 = .ok (.getfield 17, 3) := by decide +kernel
theorem dX0_copyFrom_15 : decode cX0_copyFrom 15 = .ok (.if_icmp .ge 24, 3) := by decide +kernel
theorem dX0_copyFrom_18 : decode cX0_copyFrom 18 = .ok (.aload_n 0, 1) := by decide +kernel
theorem dX0_copyFrom_19 : decode cX0_copyFrom 19 = .ok (.getfield 11, 3) := by decide +kernel
theorem dX0_copyFrom_22 : decode cX0_copyFrom 22 = .ok (.iload_n 2, 1) := by decide +kernel
theorem dX0_copyFrom_23 : decode cX0_copyFrom 23 = .ok (.aaload, 1) := by decide +kernel
theorem dX0_copyFrom_24 : decode cX0_copyFrom 24 = .ok (.aload_n 1, 1) := by decide +kernel
theorem dX0_copyFrom_25 : decode cX0_copyFrom 25 = .ok (.getfield 11, 3) := by decide +kernel
theorem dX0_copyFrom_28 : decode cX0_copyFrom 28 = .ok (.iload_n 2, 1) := by decide +kernel
theorem dX0_copyFrom_29 : decode cX0_copyFrom 29 = .ok (.aaload, 1) := by decide +kernel
theorem dX0_copyFrom_30 : decode cX0_copyFrom 30 = .ok (.invokevirtual 55, 3) := by decide +kernel
theorem dX0_copyFrom_33 : decode cX0_copyFrom 33 = .ok (.iinc 2 1, 3) := by decide +kernel
theorem dX0_copyFrom_36 : decode cX0_copyFrom 36 = .ok (.goto (-26), 3) := by decide +kernel
theorem dX0_copyFrom_39 : decode cX0_copyFrom 39 = .ok (.aload_n 0, 1) := by decide +kernel
theorem dX0_copyFrom_40 : decode cX0_copyFrom 40 = .ok (.aload_n 1, 1) := by decide +kernel
theorem dX0_copyFrom_41 : decode cX0_copyFrom 41 = .ok (.getfield 27, 3) := by decide +kernel
theorem dX0_copyFrom_44 : decode cX0_copyFrom 44 = .ok (.putfield 27, 3) := by decide +kernel
theorem dX0_copyFrom_47 : decode cX0_copyFrom 47 = .ok (.iconst 0, 1) := by decide +kernel
theorem dX0_copyFrom_48 : decode cX0_copyFrom 48 = .ok (.istore_n 2, 1) := by decide +kernel
theorem dX0_copyFrom_49 : decode cX0_copyFrom 49 = .ok (.iload_n 2, 1) := by decide +kernel
theorem dX0_copyFrom_50 : decode cX0_copyFrom 50 = .ok (.aload_n 0, 1) := by decide +kernel
theorem dX0_copyFrom_51 : decode cX0_copyFrom 51 = .ok (.getfield 27, 3) := by decide +kernel
theorem dX0_copyFrom_54 : decode cX0_copyFrom 54 = .ok (.if_icmp .ge 24, 3) := by decide +kernel
theorem dX0_copyFrom_57 : decode cX0_copyFrom 57 = .ok (.aload_n 0, 1) := by decide +kernel
theorem dX0_copyFrom_58 : decode cX0_copyFrom 58 = .ok (.getfield 23, 3) := by decide +kernel
theorem dX0_copyFrom_61 : decode cX0_copyFrom 61 = .ok (.iload_n 2, 1) := by decide +kernel
theorem dX0_copyFrom_62 : decode cX0_copyFrom 62 = .ok (.aaload, 1) := by decide +kernel
theorem dX0_copyFrom_63 : decode cX0_copyFrom 63 = .ok (.aload_n 1, 1) := by decide +kernel
theorem dX0_copyFrom_64 : decode cX0_copyFrom 64 = .ok (.getfield 23, 3) := by decide +kernel
theorem dX0_copyFrom_67 : decode cX0_copyFrom 67 = .ok (.iload_n 2, 1) := by decide +kernel
theorem dX0_copyFrom_68 : decode cX0_copyFrom 68 = .ok (.aaload, 1) := by decide +kernel
theorem dX0_copyFrom_69 : decode cX0_copyFrom 69 = .ok (.invokevirtual 59, 3) := by decide +kernel
theorem dX0_copyFrom_72 : decode cX0_copyFrom 72 = .ok (.iinc 2 1, 3) := by decide +kernel
theorem dX0_copyFrom_75 : decode cX0_copyFrom 75 = .ok (.goto (-26), 3) := by decide +kernel
theorem dX0_copyFrom_78 : decode cX0_copyFrom 78 = .ok (.iconst 0, 1) := by decide +kernel
theorem dX0_copyFrom_79 : decode cX0_copyFrom 79 = .ok (.istore_n 2, 1) := by decide +kernel
theorem dX0_copyFrom_80 : decode cX0_copyFrom 80 = .ok (.iload_n 2, 1) := by decide +kernel
theorem dX0_copyFrom_81 : decode cX0_copyFrom 81 = .ok (.iconst 2, 1) := by decide +kernel
theorem dX0_copyFrom_82 : decode cX0_copyFrom 82 = .ok (.if_icmp .ge 24, 3) := by decide +kernel
theorem dX0_copyFrom_85 : decode cX0_copyFrom 85 = .ok (.aload_n 0, 1) := by decide +kernel
theorem dX0_copyFrom_86 : decode cX0_copyFrom 86 = .ok (.getfield 32, 3) := by decide +kernel
theorem dX0_copyFrom_89 : decode cX0_copyFrom 89 = .ok (.iload_n 2, 1) := by decide +kernel
theorem dX0_copyFrom_90 : decode cX0_copyFrom 90 = .ok (.aaload, 1) := by decide +kernel
theorem dX0_copyFrom_91 : decode cX0_copyFrom 91 = .ok (.aload_n 1, 1) := by decide +kernel
theorem dX0_copyFrom_92 : decode cX0_copyFrom 92 = .ok (.getfield 32, 3) := by decide +kernel
theorem dX0_copyFrom_95 : decode cX0_copyFrom 95 = .ok (.iload_n 2, 1) := by decide +kernel
theorem dX0_copyFrom_96 : decode cX0_copyFrom 96 = .ok (.aaload, 1) := by decide +kernel
theorem dX0_copyFrom_97 : decode cX0_copyFrom 97 = .ok (.invokevirtual 62, 3) := by decide +kernel
theorem dX0_copyFrom_100 : decode cX0_copyFrom 100 = .ok (.iinc 2 1, 3) := by decide +kernel
theorem dX0_copyFrom_103 : decode cX0_copyFrom 103 = .ok (.goto (-23), 3) := by decide +kernel
theorem dX0_copyFrom_106 : decode cX0_copyFrom 106 = .ok (.return_, 1) := by decide +kernel
theorem dX1_init_0 : decode cX1_init 0 = .ok (.aload_n 0, 1) := by decide +kernel
theorem dX1_init_1 : decode cX1_init 1 = .ok (.invokespecial 3, 3) := by decide +kernel
theorem dX1_init_4 : decode cX1_init 4 = .ok (.aload_n 0, 1) := by decide +kernel
theorem dX1_init_5 : decode cX1_init 5 = .ok (.new 9, 3) := by decide +kernel
theorem dX1_init_8 : decode cX1_init 8 = .ok (.dup, 1) := by decide +kernel
theorem dX1_init_9 : decode cX1_init 9 = .ok (.invokespecial 11, 3) := by decide +kernel
theorem dX1_init_12 : decode cX1_init 12 = .ok (.putfield 12, 3) := by decide +kernel
theorem dX1_init_15 : decode cX1_init 15 = .ok (.aload_n 0, 1) := by decide +kernel
theorem dX1_init_16 : decode cX1_init 16 = .ok (.new 18, 3) := by decide +kernel
theorem dX1_init_19 : decode cX1_init 19 = .ok (.dup, 1) := by decide +kernel
theorem dX1_init_20 : decode cX1_init 20 = .ok (.invokespecial 20, 3) := by decide +kernel
theorem dX1_init_23 : decode cX1_init 23 = .ok (.putfield 21, 3) := by decide +kernel
theorem dX1_init_26 : decode cX1_init 26 = .ok (.aload_n 0, 1) := by decide +kernel
theorem dX1_init_27 : decode cX1_init 27 = .ok (.iconst 0, 1) := by decide +kernel
theorem dX1_init_28 : decode cX1_init 28 = .ok (.putfield 25, 3) := by decide +kernel
theorem dX1_init_31 : decode cX1_init 31 = .ok (.aload_n 0, 1) := by decide +kernel
theorem dX1_init_32 : decode cX1_init 32 = .ok (.iconst (-1), 1) := by decide +kernel
theorem dX1_init_33 : decode cX1_init 33 = .ok (.putfield 29, 3) := by decide +kernel
theorem dX1_init_36 : decode cX1_init 36 = .ok (.aload_n 0, 1) := by decide +kernel
theorem dX1_init_37 : decode cX1_init 37 = .ok (.bipush 8, 2) := by decide +kernel
theorem dX1_init_39 : decode cX1_init 39 = .ok (.newarray .long, 2) := by decide +kernel
theorem dX1_init_41 : decode cX1_init 41 = .ok (.putfield 32, 3) := by decide +kernel
theorem dX1_init_44 : decode cX1_init 44 = .ok (.aload_n 0, 1) := by decide +kernel
theorem dX1_init_45 : decode cX1_init 45 = .ok (.bipush 8, 2) := by decide +kernel
theorem dX1_init_47 : decode cX1_init 47 = .ok (.newarray .long, 2) := by decide +kernel
theorem dX1_init_49 : decode cX1_init 49 = .ok (.putfield 36, 3) := by decide +kernel
theorem dX1_init_52 : decode cX1_init 52 = .ok (.aload_n 0, 1) := by decide +kernel
theorem dX1_init_53 : decode cX1_init 53 = .ok (.bipush 8, 2) := by decide +kernel
theorem dX1_init_55 : decode cX1_init 55 = .ok (.newarray .int, 2) := by decide +kernel
theorem dX1_init_57 : decode cX1_init 57 = .ok (.putfield 39, 3) := by decide +kernel
theorem dX1_init_60 : decode cX1_init 60 = .ok (.aload_n 0, 1) := by decide +kernel
theorem dX1_init_61 : decode cX1_init 61 = .ok (.bipush 8, 2) := by decide +kernel
theorem dX1_init_63 : decode cX1_init 63 = .ok (.newarray .int, 2) := by decide +kernel
theorem dX1_init_65 : decode cX1_init 65 = .ok (.putfield 43, 3) := by decide +kernel
theorem dX1_init_68 : decode cX1_init 68 = .ok (.aload_n 0, 1) := by decide +kernel
theorem dX1_init_69 : decode cX1_init 69 = .ok (.bipush 8, 2) := by decide +kernel
theorem dX1_init_71 : decode cX1_init 71 = .ok (.newarray .int, 2) := by decide +kernel
theorem dX1_init_73 : decode cX1_init 73 = .ok (.putfield 46, 3) := by decide +kernel
theorem dX1_init_76 : decode cX1_init 76 = .ok (.aload_n 0, 1) := by decide +kernel
theorem dX1_init_77 : decode cX1_init 77 = .ok (.bipush 8, 2) := by decide +kernel
theorem dX1_init_79 : decode cX1_init 79 = .ok (.newarray .boolean, 2) := by decide +kernel
theorem dX1_init_81 : decode cX1_init 81 = .ok (.putfield 49, 3) := by decide +kernel
theorem dX1_init_84 : decode cX1_init 84 = .ok (.aload_n 0, 1) := by decide +kernel
theorem dX1_init_85 : decode cX1_init 85 = .ok (.bipush 8, 2) := by decide +kernel
theorem dX1_init_87 : decode cX1_init 87 = .ok (.newarray .int, 2) := by decide +kernel
theorem dX1_init_89 : decode cX1_init 89 = .ok (.putfield 53, 3) := by decide +kernel
theorem dX1_init_92 : decode cX1_init 92 = .ok (.aload_n 0, 1) := by decide +kernel
theorem dX1_init_93 : decode cX1_init 93 = .ok (.bipush 8, 2) := by decide +kernel
theorem dX1_init_95 : decode cX1_init 95 = .ok (.newarray .long, 2) := by decide +kernel
theorem dX1_init_97 : decode cX1_init 97 = .ok (.putfield 56, 3) := by decide +kernel
theorem dX1_init_100 : decode cX1_init 100 = .ok (.aload_n 0, 1) := by decide +kernel
theorem dX1_init_101 : decode cX1_init 101 = .ok (.bipush 8, 2) := by decide +kernel
theorem dX1_init_103 : decode cX1_init 103 = .ok (.newarray .long, 2) := by decide +kernel
theorem dX1_init_105 : decode cX1_init 105 = .ok (.putfield 59, 3) := by decide +kernel
theorem dX1_init_108 : decode cX1_init 108 = .ok (.aload_n 0, 1) := by decide +kernel
theorem dX1_init_109 : decode cX1_init 109 = .ok (.lconst 0, 1) := by decide +kernel
theorem dX1_init_110 : decode cX1_init 110 = .ok (.putfield 62, 3) := by decide +kernel
theorem dX1_init_113 : decode cX1_init 113 = .ok (.return_, 1) := by decide +kernel
theorem dX1_start_0 : decode cX1_start 0 = .ok (.aload_n 0, 1) := by decide +kernel
theorem dX1_start_1 : decode cX1_start 1 = .ok (.getfield 12, 3) := by decide +kernel
theorem dX1_start_4 : decode cX1_start 4 = .ok (.aload_n 1, 1) := by decide +kernel
theorem dX1_start_5 : decode cX1_start 5 = .ok (.invokevirtual 66, 3) := by decide +kernel
theorem dX1_start_8 : decode cX1_start 8 = .ok (.aload_n 0, 1) := by decide +kernel
theorem dX1_start_9 : decode cX1_start 9 = .ok (.getfield 21, 3) := by decide +kernel
theorem dX1_start_12 : decode cX1_start 12 = .ok (.aload_n 1, 1) := by decide +kernel
theorem dX1_start_13 : decode cX1_start 13 = .ok (.getfield 70, 3) := by decide +kernel
theorem dX1_start_16 : decode cX1_start 16 = .ok (.iload_n 2, 1) := by decide +kernel
theorem dX1_start_17 : decode cX1_start 17 = .ok (.aaload, 1) := by decide +kernel
theorem dX1_start_18 : decode cX1_start 18 = .ok (.invokevirtual 74, 3) := by decide +kernel
theorem dX1_start_21 : decode cX1_start 21 = .ok (.aload_n 0, 1) := by decide +kernel
theorem dX1_start_22 : decode cX1_start 22 = .ok (.iconst 0, 1) := by decide +kernel
theorem dX1_start_23 : decode cX1_start 23 = .ok (.putfield 25, 3) := by decide +kernel
theorem dX1_start_26 : decode cX1_start 26 = .ok (.aload_n 0, 1) := by decide +kernel
theorem dX1_start_27 : decode cX1_start 27 = .ok (.iconst (-1), 1) := by decide +kernel
theorem dX1_start_28 : decode cX1_start 28 = .ok (.putfield 29, 3) := by decide +kernel
theorem dX1_start_31 : decode cX1_start 31 = .ok (.aload_n 0, 1) := by decide +kernel
theorem dX1_start_32 : decode cX1_start 32 = .ok (.lconst 0, 1) := by decide +kernel
theorem dX1_start_33 : decode cX1_start 33 = .ok (.putfield 62, 3) := by decide +kernel
theorem dX1_start_36 : decode cX1_start 36 = .ok (.iconst 0, 1) := by decide +kernel
theorem dX1_start_37 : decode cX1_start 37 = .ok (.istore_n 3, 1) := by decide +kernel
theorem dX1_start_38 : decode cX1_start 38 = .ok (.iload_n 3, 1) := by decide +kernel
theorem dX1_start_39 : decode cX1_start 39 = .ok (.aload_n 0, 1) := by decide +kernel
theorem dX1_start_40 : decode cX1_start 40 = .ok (.getfield 12, 3) := by decide +kernel
theorem dX1_start_43 : decode cX1_start 43 = .ok (.getfield 77, 3) := by decide +kernel
theorem dX1_start_46 : decode cX1_start 46 = .ok (.if_icmp .ge 60, 3) := by decide +kernel
theorem dX1_start_49 : decode cX1_start 49 = .ok (.aload_n 0, 1) := by decide +kernel
theorem dX1_start_50 : decode cX1_start 50 = .ok (.getfield 32, 3) := by decide +kernel
theorem dX1_start_53 : decode cX1_start 53 = .ok (.iload_n 3, 1) := by decide +kernel
theorem dX1_start_54 : decode cX1_start 54 = .ok (.aload_n 0, 1) := by decide +kernel
theorem dX1_start_55 : decode cX1_start 55 = .ok (.getfield 12, 3) := by decide +kernel
theorem dX1_start_58 : decode cX1_start 58 = .ok (.getfield 80, 3) := by decide +kernel
theorem dX1_start_61 : decode cX1_start 61 = .ok (.iload_n 3, 1) := by decide +kernel
theorem dX1_start_62 : decode cX1_start 62 = .ok (.aaload, 1) := by decide +kernel
theorem dX1_start_63 : decode cX1_start 63 = .ok (.getfield 84, 3) := by decide +kernel
theorem dX1_start_66 : decode cX1_start 66 = .ok (.i2l, 1) := by decide +kernel
theorem dX1_start_67 : decode cX1_start 67 = .ok (.ldc2_w 89, 3) := by decide +kernel
theorem dX1_start_70 : decode cX1_start 70 = .ok (.lmul, 1) := by decide +kernel
theorem dX1_start_71 : decode cX1_start 71 = .ok (.lastore, 1) := by decide +kernel
theorem dX1_start_72 : decode cX1_start 72 = .ok (.aload_n 0, 1) := by decide +kernel
theorem dX1_start_73 : decode cX1_start 73 = .ok (.getfield 36, 3) := by decide +kernel
theorem dX1_start_76 : decode cX1_start 76 = .ok (.iload_n 3, 1) := by decide +kernel
theorem dX1_start_77 : decode cX1_start 77 = .ok (.lconst 0, 1) := by decide +kernel
theorem dX1_start_78 : decode cX1_start 78 = .ok (.lastore, 1) := by decide +kernel
theorem dX1_start_79 : decode cX1_start 79 = .ok (.aload_n 0, 1) := by decide +kernel
theorem dX1_start_80 : decode cX1_start 80 = .ok (.getfield 39, 3) := by decide +kernel
theorem dX1_start_83 : decode cX1_start 83 = .ok (.iload_n 3, 1) := by decide +kernel
theorem dX1_start_84 : decode cX1_start 84 = .ok (.iconst (-1), 1) := by decide +kernel
theorem dX1_start_85 : decode cX1_start 85 = .ok (.iastore, 1) := by decide +kernel
theorem dX1_start_86 : decode cX1_start 86 = .ok (.aload_n 0, 1) := by decide +kernel
theorem dX1_start_87 : decode cX1_start 87 = .ok (.getfield 43, 3) := by decide +kernel
theorem dX1_start_90 : decode cX1_start 90 = .ok (.iload_n 3, 1) := by decide +kernel
theorem dX1_start_91 : decode cX1_start 91 = .ok (.iconst (-1), 1) := by decide +kernel
theorem dX1_start_92 : decode cX1_start 92 = .ok (.iastore, 1) := by decide +kernel
theorem dX1_start_93 : decode cX1_start 93 = .ok (.aload_n 0, 1) := by decide +kernel
theorem dX1_start_94 : decode cX1_start 94 = .ok (.getfield 46, 3) := by decide +kernel
theorem dX1_start_97 : decode cX1_start 97 = .ok (.iload_n 3, 1) := by decide +kernel
theorem dX1_start_98 : decode cX1_start 98 = .ok (.iconst (-1), 1) := by decide +kernel
theorem dX1_start_99 : decode cX1_start 99 = .ok (.iastore, 1) := by decide +kernel
theorem dX1_start_100 : decode cX1_start 100 = .ok (.iinc 3 1, 3) := by decide +kernel
theorem dX1_start_103 : decode cX1_start 103 = .ok (.goto (-65), 3) := by decide +kernel
theorem dX1_start_106 : decode cX1_start 106 = .ok (.return_, 1) := by decide +kernel
theorem dX1_standWith_0 : decode cX1_standWith 0 = .ok (.aload_n 0, 1) := by decide +kernel
theorem dX1_standWith_1 : decode cX1_standWith 1 = .ok (.aload_n 1, 1) := by decide +kernel
theorem dX1_standWith_2 : decode cX1_standWith 2 = .ok (.getfield 25, 3) := by decide +kernel
theorem dX1_standWith_5 : decode cX1_standWith 5 = .ok (.putfield 25, 3) := by decide +kernel
theorem dX1_standWith_8 : decode cX1_standWith 8 = .ok (.aload_n 0, 1) := by decide +kernel
theorem dX1_standWith_9 : decode cX1_standWith 9 = .ok (.aload_n 1, 1) := by decide +kernel
theorem dX1_standWith_10 : decode cX1_standWith 10 = .ok (.getfield 29, 3) := by decide +kernel
theorem dX1_standWith_13 : decode cX1_standWith 13 = .ok (.putfield 29, 3) := by decide +kernel
theorem dX1_standWith_16 : decode cX1_standWith 16 = .ok (.aload_n 1, 1) := by decide +kernel
theorem dX1_standWith_17 : decode cX1_standWith 17 = .ok (.getfield 32, 3) := by decide +kernel
theorem dX1_standWith_20 : decode cX1_standWith 20 = .ok (.iconst 0, 1) := by decide +kernel
theorem dX1_standWith_21 : decode cX1_standWith 21 = .ok (.aload_n 0, 1) := by decide +kernel
theorem dX1_standWith_22 : decode cX1_standWith 22 = .ok (.getfield 32, 3) := by decide +kernel
theorem dX1_standWith_25 : decode cX1_standWith 25 = .ok (.iconst 0, 1) := by decide +kernel
theorem dX1_standWith_26 : decode cX1_standWith 26 = .ok (.bipush 8, 2) := by decide +kernel
theorem dX1_standWith_28 : decode cX1_standWith 28 = .ok (.invokestatic 91, 3) := by decide +kernel
theorem dX1_standWith_31 : decode cX1_standWith 31 = .ok (.aload_n 1, 1) := by decide +kernel
theorem dX1_standWith_32 : decode cX1_standWith 32 = .ok (.getfield 36, 3) := by decide +kernel
theorem dX1_standWith_35 : decode cX1_standWith 35 = .ok (.iconst 0, 1) := by decide +kernel
theorem dX1_standWith_36 : decode cX1_standWith 36 = .ok (.aload_n 0, 1) := by decide +kernel
theorem dX1_standWith_37 : decode cX1_standWith 37 = .ok (.getfield 36, 3) := by decide +kernel
theorem dX1_standWith_40 : decode cX1_standWith 40 = .ok (.iconst 0, 1) := by decide +kernel
theorem dX1_standWith_41 : decode cX1_standWith 41 = .ok (.bipush 8, 2) := by decide +kernel
theorem dX1_standWith_43 : decode cX1_standWith 43 = .ok (.invokestatic 91, 3) := by decide +kernel
theorem dX1_standWith_46 : decode cX1_standWith 46 = .ok (.aload_n 1, 1) := by decide +kernel
theorem dX1_standWith_47 : decode cX1_standWith 47 = .ok (.getfield 39, 3) := by decide +kernel
theorem dX1_standWith_50 : decode cX1_standWith 50 = .ok (.iconst 0, 1) := by decide +kernel
theorem dX1_standWith_51 : decode cX1_standWith 51 = .ok (.aload_n 0, 1) := by decide +kernel
theorem dX1_standWith_52 : decode cX1_standWith 52 = .ok (.getfield 39, 3) := by decide +kernel
theorem dX1_standWith_55 : decode cX1_standWith 55 = .ok (.iconst 0, 1) := by decide +kernel
theorem dX1_standWith_56 : decode cX1_standWith 56 = .ok (.bipush 8, 2) := by decide +kernel
theorem dX1_standWith_58 : decode cX1_standWith 58 = .ok (.invokestatic 91, 3) := by decide +kernel
theorem dX1_standWith_61 : decode cX1_standWith 61 = .ok (.aload_n 1, 1) := by decide +kernel
theorem dX1_standWith_62 : decode cX1_standWith 62 = .ok (.getfield 43, 3) := by decide +kernel
theorem dX1_standWith_65 : decode cX1_standWith 65 = .ok (.iconst 0, 1) := by decide +kernel
theorem dX1_standWith_66 : decode cX1_standWith 66 = .ok (.aload_n 0, 1) := by decide +kernel
theorem dX1_standWith_67 : decode cX1_standWith 67 = .ok (.getfield 43, 3) := by decide +kernel
theorem dX1_standWith_70 : decode cX1_standWith 70 = .ok (.iconst 0, 1) := by decide +kernel
theorem dX1_standWith_71 : decode cX1_standWith 71 = .ok (.bipush 8, 2) := by decide +kernel
theorem dX1_standWith_73 : decode cX1_standWith 73 = .ok (.invokestatic 91, 3) := by decide +kernel
theorem dX1_standWith_76 : decode cX1_standWith 76 = .ok (.aload_n 1, 1) := by decide +kernel
theorem dX1_standWith_77 : decode cX1_standWith 77 = .ok (.getfield 46, 3) := by decide +kernel
theorem dX1_standWith_80 : decode cX1_standWith 80 = .ok (.iconst 0, 1) := by decide +kernel
theorem dX1_standWith_81 : decode cX1_standWith 81 = .ok (.aload_n 0, 1) := by decide +kernel
theorem dX1_standWith_82 : decode cX1_standWith 82 = .ok (.getfield 46, 3) := by decide +kernel
theorem dX1_standWith_85 : decode cX1_standWith 85 = .ok (.iconst 0, 1) := by decide +kernel
theorem dX1_standWith_86 : decode cX1_standWith 86 = .ok (.bipush 8, 2) := by decide +kernel
theorem dX1_standWith_88 : decode cX1_standWith 88 = .ok (.invokestatic 91, 3) := by decide +kernel
theorem dX1_standWith_91 : decode cX1_standWith 91 = .ok (.return_, 1) := by decide +kernel
theorem dX1_goAheadOf_0 : decode cX1_goAheadOf 0 = .ok (.aload_n 0, 1) := by decide +kernel
theorem dX1_goAheadOf_1 : decode cX1_goAheadOf 1 = .ok (.iload_n 1, 1) := by decide +kernel
theorem dX1_goAheadOf_2 : decode cX1_goAheadOf 2 = .ok (.iconst 1, 1) := by decide +kernel
theorem dX1_goAheadOf_3 : decode cX1_goAheadOf 3 = .ok (.isub, 1) := by decide +kernel
theorem dX1_goAheadOf_4 : decode cX1_goAheadOf 4 = .ok (.invokevirtual 97, 3) := by decide +kernel
theorem dX1_goAheadOf_7 : decode cX1_goAheadOf 7 = .ok (.aload_n 0, 1) := by decide +kernel
theorem dX1_goAheadOf_8 : decode cX1_goAheadOf 8 = .ok (.iload_n 1, 1) := by decide +kernel
theorem dX1_goAheadOf_9 : decode cX1_goAheadOf 9 = .ok (.invokevirtual 101, 3) := by decide +kernel
theorem dX1_goAheadOf_12 : decode cX1_goAheadOf 12 = .ok (.return_, 1) := by decide +kernel
theorem dX1_goBehind_0 : decode cX1_goBehind 0 = .ok (.aload_n 0, 1) := by decide +kernel
theorem dX1_goBehind_1 : decode cX1_goBehind 1 = .ok (.iload_n 1, 1) := by decide +kernel
theorem dX1_goBehind_2 : decode cX1_goBehind 2 = .ok (.invokevirtual 104, 3) := by decide +kernel
theorem dX1_goBehind_5 : decode cX1_goBehind 5 = .ok (.istore_n 2, 1) := by decide +kernel
theorem dX1_goBehind_6 : decode cX1_goBehind 6 = .ok (.iconst 0, 1) := by decide +kernel
theorem dX1_goBehind_7 : decode cX1_goBehind 7 = .ok (.istore_n 3, 1) := by decide +kernel
theorem dX1_goBehind_8 : decode cX1_goBehind 8 = .ok (.iload_n 3, 1) := by decide +kernel
theorem dX1_goBehind_9 : decode cX1_goBehind 9 = .ok (.bipush 12, 2) := by decide +kernel
theorem dX1_goBehind_11 : decode cX1_goBehind 11 = .ok (.if_icmp .ge 24, 3) := by decide +kernel
theorem dX1_goBehind_14 : decode cX1_goBehind 14 = .ok (.iload_n 2, 1) := by decide +kernel
theorem dX1_goBehind_15 : decode cX1_goBehind 15 = .ok (.ifCond .lt 20, 3) := by decide +kernel
theorem dX1_goBehind_18 : decode cX1_goBehind 18 = .ok (.aload_n 0, 1) := by decide +kernel
theorem dX1_goBehind_19 : decode cX1_goBehind 19 = .ok (.iload_n 2, 1) := by decide +kernel
theorem dX1_goBehind_20 : decode cX1_goBehind 20 = .ok (.invokevirtual 108, 3) := by decide +kernel
theorem dX1_goBehind_23 : decode cX1_goBehind 23 = .ok (.aload_n 0, 1) := by decide +kernel
theorem dX1_goBehind_24 : decode cX1_goBehind 24 = .ok (.iload_n 1, 1) := by decide +kernel
theorem dX1_goBehind_25 : decode cX1_goBehind 25 = .ok (.invokevirtual 104, 3) := by decide +kernel
theorem dX1_goBehind_28 : decode cX1_goBehind 28 = .ok (.istore_n 2, 1) := by decide +kernel
theorem dX1_goBehind_29 : decode cX1_goBehind 29 = .ok (.iinc 3 1, 3) := by decide +kernel
theorem dX1_goBehind_32 : decode cX1_goBehind 32 = .ok (.goto (-24), 3) := by decide +kernel
theorem dX1_goBehind_35 : decode cX1_goBehind 35 = .ok (.aload_n 0, 1) := by decide +kernel
theorem dX1_goBehind_36 : decode cX1_goBehind 36 = .ok (.iload_n 1, 1) := by decide +kernel
theorem dX1_goBehind_37 : decode cX1_goBehind 37 = .ok (.invokevirtual 101, 3) := by decide +kernel
theorem dX1_goBehind_40 : decode cX1_goBehind 40 = .ok (.return_, 1) := by decide +kernel
theorem dX1_takeUpTo_0 : decode cX1_takeUpTo 0 = .ok (.aload_n 0, 1) := by decide +kernel
theorem dX1_takeUpTo_1 : decode cX1_takeUpTo 1 = .ok (.sipush 299, 3) := by decide +kernel
theorem dX1_takeUpTo_4 : decode cX1_takeUpTo 4 = .ok (.invokevirtual 104, 3) := by decide +kernel
theorem dX1_takeUpTo_7 : decode cX1_takeUpTo 7 = .ok (.istore_n 2, 1) := by decide +kernel
theorem dX1_takeUpTo_8 : decode cX1_takeUpTo 8 = .ok (.iconst 0, 1) := by decide +kernel
theorem dX1_takeUpTo_9 : decode cX1_takeUpTo 9 = .ok (.istore_n 3, 1) := by decide +kernel
theorem dX1_takeUpTo_10 : decode cX1_takeUpTo 10 = .ok (.iload_n 3, 1) := by decide +kernel
theorem dX1_takeUpTo_11 : decode cX1_takeUpTo 11 = .ok (.bipush 12, 2) := by decide +kernel
theorem dX1_takeUpTo_13 : decode cX1_takeUpTo 13 = .ok (.if_icmp .ge 35, 3) := by decide +kernel
theorem dX1_takeUpTo_16 : decode cX1_takeUpTo 16 = .ok (.iload_n 2, 1) := by decide +kernel
theorem dX1_takeUpTo_17 : decode cX1_takeUpTo 17 = .ok (.ifCond .lt 31, 3) := by decide +kernel
theorem dX1_takeUpTo_20 : decode cX1_takeUpTo 20 = .ok (.aload_n 0, 1) := by decide +kernel
theorem dX1_takeUpTo_21 : decode cX1_takeUpTo 21 = .ok (.iload_n 2, 1) := by decide +kernel
theorem dX1_takeUpTo_22 : decode cX1_takeUpTo 22 = .ok (.invokevirtual 108, 3) := by decide +kernel
theorem dX1_takeUpTo_25 : decode cX1_takeUpTo 25 = .ok (.iload_n 2, 1) := by decide +kernel
theorem dX1_takeUpTo_26 : decode cX1_takeUpTo 26 = .ok (.iload_n 1, 1) := by decide +kernel
theorem dX1_takeUpTo_27 : decode cX1_takeUpTo 27 = .ok (.if_icmp .ne 7, 3) := by decide +kernel
theorem dX1_takeUpTo_30 : decode cX1_takeUpTo 30 = .ok (.iconst (-1), 1) := by decide +kernel
theorem dX1_takeUpTo_31 : decode cX1_takeUpTo 31 = .ok (.goto 10, 3) := by decide +kernel
theorem dX1_takeUpTo_34 : decode cX1_takeUpTo 34 = .ok (.aload_n 0, 1) := by decide +kernel
theorem dX1_takeUpTo_35 : decode cX1_takeUpTo 35 = .ok (.sipush 299, 3) := by decide +kernel
theorem dX1_takeUpTo_38 : decode cX1_takeUpTo 38 = .ok (.invokevirtual 104, 3) := by decide +kernel
theorem dX1_takeUpTo_41 : decode cX1_takeUpTo 41 = .ok (.istore_n 2, 1) := by decide +kernel
theorem dX1_takeUpTo_42 : decode cX1_takeUpTo 42 = .ok (.iinc 3 1, 3) := by decide +kernel
theorem dX1_takeUpTo_45 : decode cX1_takeUpTo 45 = .ok (.goto (-35), 3) := by decide +kernel
theorem dX1_takeUpTo_48 : decode cX1_takeUpTo 48 = .ok (.return_, 1) := by decide +kernel
theorem dX1_nextPayment_0 : decode cX1_nextPayment 0 = .ok (.iconst (-1), 1) := by decide +kernel
theorem dX1_nextPayment_1 : decode cX1_nextPayment 1 = .ok (.istore_n 2, 1) := by decide +kernel
theorem dX1_nextPayment_2 : decode cX1_nextPayment 2 = .ok (.iload_n 1, 1) := by decide +kernel
theorem dX1_nextPayment_3 : decode cX1_nextPayment 3 = .ok (.iconst 1, 1) := by decide +kernel
theorem dX1_nextPayment_4 : decode cX1_nextPayment 4 = .ok (.iadd, 1) := by decide +kernel
theorem dX1_nextPayment_5 : decode cX1_nextPayment 5 = .ok (.istore_n 3, 1) := by decide +kernel
theorem dX1_nextPayment_6 : decode cX1_nextPayment 6 = .ok (.iconst 0, 1) := by decide +kernel
theorem dX1_nextPayment_7 : decode cX1_nextPayment 7 = .ok (.istore 4, 2) := by decide +kernel
theorem dX1_nextPayment_9 : decode cX1_nextPayment 9 = .ok (.iload 4, 2) := by decide +kernel
theorem dX1_nextPayment_11 : decode cX1_nextPayment 11 = .ok (.aload_n 0, 1) := by decide +kernel
theorem dX1_nextPayment_12 : decode cX1_nextPayment 12 = .ok (.getfield 12, 3) := by decide +kernel
theorem dX1_nextPayment_15 : decode cX1_nextPayment 15 = .ok (.getfield 111, 3) := by decide +kernel
theorem dX1_nextPayment_18 : decode cX1_nextPayment 18 = .ok (.if_icmp .ge 75, 3) := by decide +kernel
theorem dX1_nextPayment_21 : decode cX1_nextPayment 21 = .ok (.aload_n 0, 1) := by decide +kernel
theorem dX1_nextPayment_22 : decode cX1_nextPayment 22 = .ok (.getfield 12, 3) := by decide +kernel
theorem dX1_nextPayment_25 : decode cX1_nextPayment 25 = .ok (.getfield 114, 3) := by decide +kernel
theorem dX1_nextPayment_28 : decode cX1_nextPayment 28 = .ok (.iload 4, 2) := by decide +kernel
theorem dX1_nextPayment_30 : decode cX1_nextPayment 30 = .ok (.aaload, 1) := by decide +kernel
theorem dX1_nextPayment_31 : decode cX1_nextPayment 31 = .ok (.getfield 118, 3) := by decide +kernel
theorem dX1_nextPayment_34 : decode cX1_nextPayment 34 = .ok (.istore 5, 2) := by decide +kernel
theorem dX1_nextPayment_36 : decode cX1_nextPayment 36 = .ok (.iload 5, 2) := by decide +kernel
theorem dX1_nextPayment_38 : decode cX1_nextPayment 38 = .ok (.aload_n 0, 1) := by decide +kernel
theorem dX1_nextPayment_39 : decode cX1_nextPayment 39 = .ok (.getfield 25, 3) := by decide +kernel
theorem dX1_nextPayment_42 : decode cX1_nextPayment 42 = .ok (.if_icmp .gt 21, 3) := by decide +kernel
theorem dX1_nextPayment_45 : decode cX1_nextPayment 45 = .ok (.iload 5, 2) := by decide +kernel
theorem dX1_nextPayment_47 : decode cX1_nextPayment 47 = .ok (.aload_n 0, 1) := by decide +kernel
theorem dX1_nextPayment_48 : decode cX1_nextPayment 48 = .ok (.getfield 25, 3) := by decide +kernel
theorem dX1_nextPayment_51 : decode cX1_nextPayment 51 = .ok (.if_icmp .ne 16, 3) := by decide +kernel
theorem dX1_nextPayment_54 : decode cX1_nextPayment 54 = .ok (.iload 4, 2) := by decide +kernel
theorem dX1_nextPayment_56 : decode cX1_nextPayment 56 = .ok (.aload_n 0, 1) := by decide +kernel
theorem dX1_nextPayment_57 : decode cX1_nextPayment 57 = .ok (.getfield 29, 3) := by decide +kernel
theorem dX1_nextPayment_60 : decode cX1_nextPayment 60 = .ok (.if_icmp .le 7, 3) := by decide +kernel
theorem dX1_nextPayment_63 : decode cX1_nextPayment 63 = .ok (.iconst 1, 1) := by decide +kernel
theorem dX1_nextPayment_64 : decode cX1_nextPayment 64 = .ok (.goto 4, 3) := by decide +kernel
theorem dX1_nextPayment_67 : decode cX1_nextPayment 67 = .ok (.iconst 0, 1) := by decide +kernel
theorem dX1_nextPayment_68 : decode cX1_nextPayment 68 = .ok (.istore 6, 2) := by decide +kernel
theorem dX1_nextPayment_70 : decode cX1_nextPayment 70 = .ok (.iload 6, 2) := by decide +kernel
theorem dX1_nextPayment_72 : decode cX1_nextPayment 72 = .ok (.ifCond .eq 15, 3) := by decide +kernel
theorem dX1_nextPayment_75 : decode cX1_nextPayment 75 = .ok (.iload 5, 2) := by decide +kernel
theorem dX1_nextPayment_77 : decode cX1_nextPayment 77 = .ok (.iload_n 3, 1) := by decide +kernel
theorem dX1_nextPayment_78 : decode cX1_nextPayment 78 = .ok (.if_icmp .ge 9, 3) := by decide +kernel
theorem dX1_nextPayment_81 : decode cX1_nextPayment 81 = .ok (.iload 4, 2) := by decide +kernel
theorem dX1_nextPayment_83 : decode cX1_nextPayment 83 = .ok (.istore_n 2, 1) := by decide +kernel
theorem dX1_nextPayment_84 : decode cX1_nextPayment 84 = .ok (.iload 5, 2) := by decide +kernel
theorem dX1_nextPayment_86 : decode cX1_nextPayment 86 = .ok (.istore_n 3, 1) := by decide +kernel
theorem dX1_nextPayment_87 : decode cX1_nextPayment 87 = .ok (.iinc 4 1, 3) := by decide +kernel
theorem dX1_nextPayment_90 : decode cX1_nextPayment 90 = .ok (.goto (-81), 3) := by decide +kernel
theorem dX1_nextPayment_93 : decode cX1_nextPayment 93 = .ok (.iload_n 2, 1) := by decide +kernel
theorem dX1_nextPayment_94 : decode cX1_nextPayment 94 = .ok (.ireturn, 1) := by decide +kernel
theorem dX1_take_0 : decode cX1_take 0 = .ok (.aload_n 0, 1) := by decide +kernel
theorem dX1_take_1 : decode cX1_take 1 = .ok (.getfield 12, 3) := by decide +kernel
theorem dX1_take_4 : decode cX1_take 4 = .ok (.getfield 114, 3) := by decide +kernel
theorem dX1_take_7 : decode cX1_take 7 = .ok (.iload_n 1, 1) := by decide +kernel
theorem dX1_take_8 : decode cX1_take 8 = .ok (.aaload, 1) := by decide +kernel
theorem dX1_take_9 : decode cX1_take 9 = .ok (.astore_n 2, 1) := by decide +kernel
theorem dX1_take_10 : decode cX1_take 10 = .ok (.aload_n 0, 1) := by decide +kernel
theorem dX1_take_11 : decode cX1_take 11 = .ok (.aload_n 2, 1) := by decide +kernel
theorem dX1_take_12 : decode cX1_take 12 = .ok (.getfield 118, 3) := by decide +kernel
theorem dX1_take_15 : decode cX1_take 15 = .ok (.invokevirtual 101, 3) := by decide +kernel
theorem dX1_take_18 : decode cX1_take 18 = .ok (.aload_n 0, 1) := by decide +kernel
theorem dX1_take_19 : decode cX1_take 19 = .ok (.iload_n 1, 1) := by decide +kernel
theorem dX1_take_20 : decode cX1_take 20 = .ok (.putfield 29, 3) := by decide +kernel
theorem dX1_take_23 : decode cX1_take 23 = .ok (.aload_n 0, 1) := by decide +kernel
theorem dX1_take_24 : decode cX1_take 24 = .ok (.aload_n 2, 1) := by decide +kernel
theorem dX1_take_25 : decode cX1_take 25 = .ok (.getfield 121, 3) := by decide +kernel
theorem dX1_take_28 : decode cX1_take 28 = .ok (.i2l, 1) := by decide +kernel
theorem dX1_take_29 : decode cX1_take 29 = .ok (.ldc2_w 89, 3) := by decide +kernel
theorem dX1_take_32 : decode cX1_take 32 = .ok (.lmul, 1) := by decide +kernel
theorem dX1_take_33 : decode cX1_take 33 = .ok (.aload_n 0, 1) := by decide +kernel
theorem dX1_take_34 : decode cX1_take 34 = .ok (.aload_n 2, 1) := by decide +kernel
theorem dX1_take_35 : decode cX1_take 35 = .ok (.invokevirtual 122, 3) := by decide +kernel
theorem dX1_take_38 : decode cX1_take 38 = .ok (.invokevirtual 126, 3) := by decide +kernel
theorem dX1_take_41 : decode cX1_take 41 = .ok (.return_, 1) := by decide +kernel
theorem dX1_runTo_0 : decode cX1_runTo 0 = .ok (.iload_n 1, 1) := by decide +kernel
theorem dX1_runTo_1 : decode cX1_runTo 1 = .ok (.aload_n 0, 1) := by decide +kernel
theorem dX1_runTo_2 : decode cX1_runTo 2 = .ok (.getfield 25, 3) := by decide +kernel
theorem dX1_runTo_5 : decode cX1_runTo 5 = .ok (.if_icmp .gt 4, 3) := by decide +kernel
theorem dX1_runTo_8 : decode cX1_runTo 8 = .ok (.return_, 1) := by decide +kernel
theorem dX1_runTo_9 : decode cX1_runTo 9 = .ok (.iconst 0, 1) := by decide +kernel
theorem dX1_runTo_10 : decode cX1_runTo 10 = .ok (.istore_n 2, 1) := by decide +kernel
theorem dX1_runTo_11 : decode cX1_runTo 11 = .ok (.iload_n 2, 1) := by decide +kernel
theorem dX1_runTo_12 : decode cX1_runTo 12 = .ok (.aload_n 0, 1) := by decide +kernel
theorem dX1_runTo_13 : decode cX1_runTo 13 = .ok (.getfield 12, 3) := by decide +kernel
theorem dX1_runTo_16 : decode cX1_runTo 16 = .ok (.getfield 77, 3) := by decide +kernel
theorem dX1_runTo_19 : decode cX1_runTo 19 = .ok (.if_icmp .ge 35, 3) := by decide +kernel
theorem dX1_runTo_22 : decode cX1_runTo 22 = .ok (.aload_n 0, 1) := by decide +kernel
theorem dX1_runTo_23 : decode cX1_runTo 23 = .ok (.iload_n 2, 1) := by decide +kernel
theorem dX1_runTo_24 : decode cX1_runTo 24 = .ok (.iload_n 1, 1) := by decide +kernel
theorem dX1_runTo_25 : decode cX1_runTo 25 = .ok (.aload_n 0, 1) := by decide +kernel
theorem dX1_runTo_26 : decode cX1_runTo 26 = .ok (.getfield 25, 3) := by decide +kernel
theorem dX1_runTo_29 : decode cX1_runTo 29 = .ok (.aload_n 0, 1) := by decide +kernel
theorem dX1_runTo_30 : decode cX1_runTo 30 = .ok (.getfield 12, 3) := by decide +kernel
theorem dX1_runTo_33 : decode cX1_runTo 33 = .ok (.getfield 80, 3) := by decide +kernel
theorem dX1_runTo_36 : decode cX1_runTo 36 = .ok (.iload_n 2, 1) := by decide +kernel
theorem dX1_runTo_37 : decode cX1_runTo 37 = .ok (.aaload, 1) := by decide +kernel
theorem dX1_runTo_38 : decode cX1_runTo 38 = .ok (.getfield 130, 3) := by decide +kernel
theorem dX1_runTo_41 : decode cX1_runTo 41 = .ok (.invokestatic 133, 3) := by decide +kernel
theorem dX1_runTo_44 : decode cX1_runTo 44 = .ok (.isub, 1) := by decide +kernel
theorem dX1_runTo_45 : decode cX1_runTo 45 = .ok (.invokevirtual 139, 3) := by decide +kernel
theorem dX1_runTo_48 : decode cX1_runTo 48 = .ok (.iinc 2 1, 3) := by decide +kernel
theorem dX1_runTo_51 : decode cX1_runTo 51 = .ok (.goto (-40), 3) := by decide +kernel
theorem dX1_runTo_54 : decode cX1_runTo 54 = .ok (.aload_n 0, 1) := by decide +kernel
theorem dX1_runTo_55 : decode cX1_runTo 55 = .ok (.iload_n 1, 1) := by decide +kernel
theorem dX1_runTo_56 : decode cX1_runTo 56 = .ok (.putfield 25, 3) := by decide +kernel
theorem dX1_runTo_59 : decode cX1_runTo 59 = .ok (.aload_n 0, 1) := by decide +kernel
theorem dX1_runTo_60 : decode cX1_runTo 60 = .ok (.iconst (-1), 1) := by decide +kernel
theorem dX1_runTo_61 : decode cX1_runTo 61 = .ok (.putfield 29, 3) := by decide +kernel
theorem dX1_runTo_64 : decode cX1_runTo 64 = .ok (.return_, 1) := by decide +kernel
theorem dX1_runOn_0 : decode cX1_runOn 0 = .ok (.aload_n 0, 1) := by decide +kernel
theorem dX1_runOn_1 : decode cX1_runOn 1 = .ok (.getfield 12, 3) := by decide +kernel
theorem dX1_runOn_4 : decode cX1_runOn 4 = .ok (.getfield 80, 3) := by decide +kernel
theorem dX1_runOn_7 : decode cX1_runOn 7 = .ok (.iload_n 1, 1) := by decide +kernel
theorem dX1_runOn_8 : decode cX1_runOn 8 = .ok (.aaload, 1) := by decide +kernel
theorem dX1_runOn_9 : decode cX1_runOn 9 = .ok (.getfield 143, 3) := by decide +kernel
theorem dX1_runOn_12 : decode cX1_runOn 12 = .ok (.iconst 4, 1) := by decide +kernel
theorem dX1_runOn_13 : decode cX1_runOn 13 = .ok (.iaload, 1) := by decide +kernel
theorem dX1_runOn_14 : decode cX1_runOn 14 = .ok (.istore_n 3, 1) := by decide +kernel
theorem dX1_runOn_15 : decode cX1_runOn 15 = .ok (.iload_n 2, 1) := by decide +kernel
theorem dX1_runOn_16 : decode cX1_runOn 16 = .ok (.ifCond .le 7, 3) := by decide +kernel
theorem dX1_runOn_19 : decode cX1_runOn 19 = .ok (.iload_n 3, 1) := by decide +kernel
theorem dX1_runOn_20 : decode cX1_runOn 20 = .ok (.ifCond .ne 4, 3) := by decide +kernel
theorem dX1_runOn_23 : decode cX1_runOn 23 = .ok (.return_, 1) := by decide +kernel
theorem dX1_runOn_24 : decode cX1_runOn 24 = .ok (.aload_n 0, 1) := by decide +kernel
theorem dX1_runOn_25 : decode cX1_runOn 25 = .ok (.getfield 12, 3) := by decide +kernel
theorem dX1_runOn_28 : decode cX1_runOn 28 = .ok (.getfield 80, 3) := by decide +kernel
theorem dX1_runOn_31 : decode cX1_runOn 31 = .ok (.iload_n 1, 1) := by decide +kernel
theorem dX1_runOn_32 : decode cX1_runOn 32 = .ok (.aaload, 1) := by decide +kernel
theorem dX1_runOn_33 : decode cX1_runOn 33 = .ok (.getfield 143, 3) := by decide +kernel
theorem dX1_runOn_36 : decode cX1_runOn 36 = .ok (.iconst 0, 1) := by decide +kernel
theorem dX1_runOn_37 : decode cX1_runOn 37 = .ok (.iaload, 1) := by decide +kernel
theorem dX1_runOn_38 : decode cX1_runOn 38 = .ok (.ifCond .ne 29, 3) := by decide +kernel
theorem dX1_runOn_41 : decode cX1_runOn 41 = .ok (.aload_n 0, 1) := by decide +kernel
theorem dX1_runOn_42 : decode cX1_runOn 42 = .ok (.getfield 36, 3) := by decide +kernel
theorem dX1_runOn_45 : decode cX1_runOn 45 = .ok (.iload_n 1, 1) := by decide +kernel
theorem dX1_runOn_46 : decode cX1_runOn 46 = .ok (.dup2, 1) := by decide +kernel
theorem dX1_runOn_47 : decode cX1_runOn 47 = .ok (.laload, 1) := by decide +kernel
theorem dX1_runOn_48 : decode cX1_runOn 48 = .ok (.aload_n 0, 1) := by decide +kernel
theorem dX1_runOn_49 : decode cX1_runOn 49 = .ok (.getfield 32, 3) := by decide +kernel
theorem dX1_runOn_52 : decode cX1_runOn 52 = .ok (.iload_n 1, 1) := by decide +kernel
theorem dX1_runOn_53 : decode cX1_runOn 53 = .ok (.laload, 1) := by decide +kernel
theorem dX1_runOn_54 : decode cX1_runOn 54 = .ok (.iload_n 3, 1) := by decide +kernel
theorem dX1_runOn_55 : decode cX1_runOn 55 = .ok (.i2l, 1) := by decide +kernel
theorem dX1_runOn_56 : decode cX1_runOn 56 = .ok (.lmul, 1) := by decide +kernel
theorem dX1_runOn_57 : decode cX1_runOn 57 = .ok (.ldc2_w 89, 3) := by decide +kernel
theorem dX1_runOn_60 : decode cX1_runOn 60 = .ok (.ldiv, 1) := by decide +kernel
theorem dX1_runOn_61 : decode cX1_runOn 61 = .ok (.iload_n 2, 1) := by decide +kernel
theorem dX1_runOn_62 : decode cX1_runOn 62 = .ok (.i2l, 1) := by decide +kernel
theorem dX1_runOn_63 : decode cX1_runOn 63 = .ok (.lmul, 1) := by decide +kernel
theorem dX1_runOn_64 : decode cX1_runOn 64 = .ok (.ladd, 1) := by decide +kernel
theorem dX1_runOn_65 : decode cX1_runOn 65 = .ok (.lastore, 1) := by decide +kernel
theorem dX1_runOn_66 : decode cX1_runOn 66 = .ok (.return_, 1) := by decide +kernel
theorem dX1_runOn_67 : decode cX1_runOn 67 = .ok (.aload_n 0, 1) := by decide +kernel
theorem dX1_runOn_68 : decode cX1_runOn 68 = .ok (.getfield 36, 3) := by decide +kernel
theorem dX1_runOn_71 : decode cX1_runOn 71 = .ok (.iload_n 1, 1) := by decide +kernel
theorem dX1_runOn_72 : decode cX1_runOn 72 = .ok (.laload, 1) := by decide +kernel
theorem dX1_runOn_73 : decode cX1_runOn 73 = .ok (.lstore 4, 2) := by decide +kernel
theorem dX1_runOn_75 : decode cX1_runOn 75 = .ok (.iconst 0, 1) := by decide +kernel
theorem dX1_runOn_76 : decode cX1_runOn 76 = .ok (.istore 6, 2) := by decide +kernel
theorem dX1_runOn_78 : decode cX1_runOn 78 = .ok (.iload 6, 2) := by decide +kernel
theorem dX1_runOn_80 : decode cX1_runOn 80 = .ok (.iload_n 2, 1) := by decide +kernel
theorem dX1_runOn_81 : decode cX1_runOn 81 = .ok (.if_icmp .ge 30, 3) := by decide +kernel
theorem dX1_runOn_84 : decode cX1_runOn 84 = .ok (.lload 4, 2) := by decide +kernel
theorem dX1_runOn_86 : decode cX1_runOn 86 = .ok (.aload_n 0, 1) := by decide +kernel
theorem dX1_runOn_87 : decode cX1_runOn 87 = .ok (.getfield 32, 3) := by decide +kernel
theorem dX1_runOn_90 : decode cX1_runOn 90 = .ok (.iload_n 1, 1) := by decide +kernel
theorem dX1_runOn_91 : decode cX1_runOn 91 = .ok (.laload, 1) := by decide +kernel
theorem dX1_runOn_92 : decode cX1_runOn 92 = .ok (.lload 4, 2) := by decide +kernel
theorem dX1_runOn_94 : decode cX1_runOn 94 = .ok (.ladd, 1) := by decide +kernel
theorem dX1_runOn_95 : decode cX1_runOn 95 = .ok (.iload_n 3, 1) := by decide +kernel
theorem dX1_runOn_96 : decode cX1_runOn 96 = .ok (.i2l, 1) := by decide +kernel
theorem dX1_runOn_97 : decode cX1_runOn 97 = .ok (.lmul, 1) := by decide +kernel
theorem dX1_runOn_98 : decode cX1_runOn 98 = .ok (.ldc2_w 89, 3) := by decide +kernel
theorem dX1_runOn_101 : decode cX1_runOn 101 = .ok (.ldiv, 1) := by decide +kernel
theorem dX1_runOn_102 : decode cX1_runOn 102 = .ok (.ladd, 1) := by decide +kernel
theorem dX1_runOn_103 : decode cX1_runOn 103 = .ok (.lstore 4, 2) := by decide +kernel
theorem dX1_runOn_105 : decode cX1_runOn 105 = .ok (.iinc 6 1, 3) := by decide +kernel
theorem dX1_runOn_108 : decode cX1_runOn 108 = .ok (.goto (-30), 3) := by decide +kernel
theorem dX1_runOn_111 : decode cX1_runOn 111 = .ok (.aload_n 0, 1) := by decide +kernel
theorem dX1_runOn_112 : decode cX1_runOn 112 = .ok (.getfield 36, 3) := by decide +kernel
theorem dX1_runOn_115 : decode cX1_runOn 115 = .ok (.iload_n 1, 1) := by decide +kernel
theorem dX1_runOn_116 : decode cX1_runOn 116 = .ok (.lload 4, 2) := by decide +kernel
theorem dX1_runOn_118 : decode cX1_runOn 118 = .ok (.lastore, 1) := by decide +kernel
theorem dX1_runOn_119 : decode cX1_runOn 119 = .ok (.return_, 1) := by decide +kernel
theorem dX1_isOpen_0 : decode cX1_isOpen 0 = .ok (.iload_n 1, 1) := by decide +kernel
theorem dX1_isOpen_1 : decode cX1_isOpen 1 = .ok (.ifCond .lt 55, 3) := by decide +kernel
theorem dX1_isOpen_4 : decode cX1_isOpen 4 = .ok (.iload_n 1, 1) := by decide +kernel
theorem dX1_isOpen_5 : decode cX1_isOpen 5 = .ok (.aload_n 0, 1) := by decide +kernel
theorem dX1_isOpen_6 : decode cX1_isOpen 6 = .ok (.getfield 12, 3) := by decide +kernel
theorem dX1_isOpen_9 : decode cX1_isOpen 9 = .ok (.getfield 77, 3) := by decide +kernel
theorem dX1_isOpen_12 : decode cX1_isOpen 12 = .ok (.if_icmp .ge 44, 3) := by decide +kernel
theorem dX1_isOpen_15 : decode cX1_isOpen 15 = .ok (.aload_n 0, 1) := by decide +kernel
theorem dX1_isOpen_16 : decode cX1_isOpen 16 = .ok (.getfield 12, 3) := by decide +kernel
theorem dX1_isOpen_19 : decode cX1_isOpen 19 = .ok (.getfield 80, 3) := by decide +kernel
theorem dX1_isOpen_22 : decode cX1_isOpen 22 = .ok (.iload_n 1, 1) := by decide +kernel
theorem dX1_isOpen_23 : decode cX1_isOpen 23 = .ok (.aaload, 1) := by decide +kernel
theorem dX1_isOpen_24 : decode cX1_isOpen 24 = .ok (.getfield 130, 3) := by decide +kernel
theorem dX1_isOpen_27 : decode cX1_isOpen 27 = .ok (.aload_n 0, 1) := by decide +kernel
theorem dX1_isOpen_28 : decode cX1_isOpen 28 = .ok (.getfield 25, 3) := by decide +kernel
theorem dX1_isOpen_31 : decode cX1_isOpen 31 = .ok (.if_icmp .gt 25, 3) := by decide +kernel
theorem dX1_isOpen_34 : decode cX1_isOpen 34 = .ok (.aload_n 0, 1) := by decide +kernel
theorem dX1_isOpen_35 : decode cX1_isOpen 35 = .ok (.getfield 32, 3) := by decide +kernel
theorem dX1_isOpen_38 : decode cX1_isOpen 38 = .ok (.iload_n 1, 1) := by decide +kernel
theorem dX1_isOpen_39 : decode cX1_isOpen 39 = .ok (.laload, 1) := by decide +kernel
theorem dX1_isOpen_40 : decode cX1_isOpen 40 = .ok (.aload_n 0, 1) := by decide +kernel
theorem dX1_isOpen_41 : decode cX1_isOpen 41 = .ok (.getfield 36, 3) := by decide +kernel
theorem dX1_isOpen_44 : decode cX1_isOpen 44 = .ok (.iload_n 1, 1) := by decide +kernel
theorem dX1_isOpen_45 : decode cX1_isOpen 45 = .ok (.laload, 1) := by decide +kernel
theorem dX1_isOpen_46 : decode cX1_isOpen 46 = .ok (.ladd, 1) := by decide +kernel
theorem dX1_isOpen_47 : decode cX1_isOpen 47 = .ok (.lconst 0, 1) := by decide +kernel
theorem dX1_isOpen_48 : decode cX1_isOpen 48 = .ok (.lcmp, 1) := by decide +kernel
theorem dX1_isOpen_49 : decode cX1_isOpen 49 = .ok (.ifCond .le 7, 3) := by decide +kernel
theorem dX1_isOpen_52 : decode cX1_isOpen 52 = .ok (.iconst 1, 1) := by decide +kernel
theorem dX1_isOpen_53 : decode cX1_isOpen 53 = .ok (.goto 4, 3) := by decide +kernel
theorem dX1_isOpen_56 : decode cX1_isOpen 56 = .ok (.iconst 0, 1) := by decide +kernel
theorem dX1_isOpen_57 : decode cX1_isOpen 57 = .ok (.ireturn, 1) := by decide +kernel
theorem dX1_sumLeft_0 : decode cX1_sumLeft 0 = .ok (.aload_n 0, 1) := by decide +kernel
theorem dX1_sumLeft_1 : decode cX1_sumLeft 1 = .ok (.getfield 12, 3) := by decide +kernel
theorem dX1_sumLeft_4 : decode cX1_sumLeft 4 = .ok (.getfield 80, 3) := by decide +kernel
theorem dX1_sumLeft_7 : decode cX1_sumLeft 7 = .ok (.iload_n 1, 1) := by decide +kernel
theorem dX1_sumLeft_8 : decode cX1_sumLeft 8 = .ok (.aaload, 1) := by decide +kernel
theorem dX1_sumLeft_9 : decode cX1_sumLeft 9 = .ok (.getfield 130, 3) := by decide +kernel
theorem dX1_sumLeft_12 : decode cX1_sumLeft 12 = .ok (.aload_n 0, 1) := by decide +kernel
theorem dX1_sumLeft_13 : decode cX1_sumLeft 13 = .ok (.getfield 25, 3) := by decide +kernel
theorem dX1_sumLeft_16 : decode cX1_sumLeft 16 = .ok (.if_icmp .gt 12, 3) := by decide +kernel
theorem dX1_sumLeft_19 : decode cX1_sumLeft 19 = .ok (.aload_n 0, 1) := by decide +kernel
theorem dX1_sumLeft_20 : decode cX1_sumLeft 20 = .ok (.getfield 32, 3) := by decide +kernel
theorem dX1_sumLeft_23 : decode cX1_sumLeft 23 = .ok (.iload_n 1, 1) := by decide +kernel
theorem dX1_sumLeft_24 : decode cX1_sumLeft 24 = .ok (.laload, 1) := by decide +kernel
theorem dX1_sumLeft_25 : decode cX1_sumLeft 25 = .ok (.goto 4, 3) := by decide +kernel
theorem dX1_sumLeft_28 : decode cX1_sumLeft 28 = .ok (.lconst 0, 1) := by decide +kernel
theorem dX1_sumLeft_29 : decode cX1_sumLeft 29 = .ok (.lreturn, 1) := by decide +kernel
theorem dX1_runLeft_0 : decode cX1_runLeft 0 = .ok (.aload_n 0, 1) := by decide +kernel
theorem dX1_runLeft_1 : decode cX1_runLeft 1 = .ok (.getfield 12, 3) := by decide +kernel
theorem dX1_runLeft_4 : decode cX1_runLeft 4 = .ok (.getfield 80, 3) := by decide +kernel
theorem dX1_runLeft_7 : decode cX1_runLeft 7 = .ok (.iload_n 1, 1) := by decide +kernel
theorem dX1_runLeft_8 : decode cX1_runLeft 8 = .ok (.aaload, 1) := by decide +kernel
theorem dX1_runLeft_9 : decode cX1_runLeft 9 = .ok (.getfield 130, 3) := by decide +kernel
theorem dX1_runLeft_12 : decode cX1_runLeft 12 = .ok (.aload_n 0, 1) := by decide +kernel
theorem dX1_runLeft_13 : decode cX1_runLeft 13 = .ok (.getfield 25, 3) := by decide +kernel
theorem dX1_runLeft_16 : decode cX1_runLeft 16 = .ok (.if_icmp .gt 12, 3) := by decide +kernel
theorem dX1_runLeft_19 : decode cX1_runLeft 19 = .ok (.aload_n 0, 1) := by decide +kernel
theorem dX1_runLeft_20 : decode cX1_runLeft 20 = .ok (.getfield 36, 3) := by decide +kernel
theorem dX1_runLeft_23 : decode cX1_runLeft 23 = .ok (.iload_n 1, 1) := by decide +kernel
theorem dX1_runLeft_24 : decode cX1_runLeft 24 = .ok (.laload, 1) := by decide +kernel
theorem dX1_runLeft_25 : decode cX1_runLeft 25 = .ok (.goto 4, 3) := by decide +kernel
theorem dX1_runLeft_28 : decode cX1_runLeft 28 = .ok (.lconst 0, 1) := by decide +kernel
theorem dX1_runLeft_29 : decode cX1_runLeft 29 = .ok (.lreturn, 1) := by decide +kernel
theorem dX1_leftOf_0 : decode cX1_leftOf 0 = .ok (.aload_n 0, 1) := by decide +kernel
theorem dX1_leftOf_1 : decode cX1_leftOf 1 = .ok (.iload_n 1, 1) := by decide +kernel
theorem dX1_leftOf_2 : decode cX1_leftOf 2 = .ok (.invokevirtual 146, 3) := by decide +kernel
theorem dX1_leftOf_5 : decode cX1_leftOf 5 = .ok (.aload_n 0, 1) := by decide +kernel
theorem dX1_leftOf_6 : decode cX1_leftOf 6 = .ok (.iload_n 1, 1) := by decide +kernel
theorem dX1_leftOf_7 : decode cX1_leftOf 7 = .ok (.invokevirtual 150, 3) := by decide +kernel
theorem dX1_leftOf_10 : decode cX1_leftOf 10 = .ok (.ladd, 1) := by decide +kernel
theorem dX1_leftOf_11 : decode cX1_leftOf 11 = .ok (.lreturn, 1) := by decide +kernel
theorem dX1_owedNow_0 : decode cX1_owedNow 0 = .ok (.lconst 0, 1) := by decide +kernel
theorem dX1_owedNow_1 : decode cX1_owedNow 1 = .ok (.lstore_n 1, 1) := by decide +kernel
theorem dX1_owedNow_2 : decode cX1_owedNow 2 = .ok (.iconst 0, 1) := by decide +kernel
theorem dX1_owedNow_3 : decode cX1_owedNow 3 = .ok (.istore_n 3, 1) := by decide +kernel
theorem dX1_owedNow_4 : decode cX1_owedNow 4 = .ok (.iload_n 3, 1) := by decide +kernel
theorem dX1_owedNow_5 : decode cX1_owedNow 5 = .ok (.aload_n 0, 1) := by decide +kernel
theorem dX1_owedNow_6 : decode cX1_owedNow 6 = .ok (.getfield 12, 3) := by decide +kernel
theorem dX1_owedNow_9 : decode cX1_owedNow 9 = .ok (.getfield 77, 3) := by decide +kernel
theorem dX1_owedNow_12 : decode cX1_owedNow 12 = .ok (.if_icmp .ge 17, 3) := by decide +kernel
theorem dX1_owedNow_15 : decode cX1_owedNow 15 = .ok (.lload_n 1, 1) := by decide +kernel
theorem dX1_owedNow_16 : decode cX1_owedNow 16 = .ok (.aload_n 0, 1) := by decide +kernel
theorem dX1_owedNow_17 : decode cX1_owedNow 17 = .ok (.iload_n 3, 1) := by decide +kernel
theorem dX1_owedNow_18 : decode cX1_owedNow 18 = .ok (.invokevirtual 153, 3) := by decide +kernel
theorem dX1_owedNow_21 : decode cX1_owedNow 21 = .ok (.ladd, 1) := by decide +kernel
theorem dX1_owedNow_22 : decode cX1_owedNow 22 = .ok (.lstore_n 1, 1) := by decide +kernel
theorem dX1_owedNow_23 : decode cX1_owedNow 23 = .ok (.iinc 3 1, 3) := by decide +kernel
theorem dX1_owedNow_26 : decode cX1_owedNow 26 = .ok (.goto (-22), 3) := by decide +kernel
theorem dX1_owedNow_29 : decode cX1_owedNow 29 = .ok (.lload_n 1, 1) := by decide +kernel
theorem dX1_owedNow_30 : decode cX1_owedNow 30 = .ok (.lreturn, 1) := by decide +kernel
theorem dX1_isLeftAlike_0 : decode cX1_isLeftAlike 0 = .ok (.iconst 0, 1) := by decide +kernel
theorem dX1_isLeftAlike_1 : decode cX1_isLeftAlike 1 = .ok (.istore_n 2, 1) := by decide +kernel
theorem dX1_isLeftAlike_2 : decode cX1_isLeftAlike 2 = .ok (.iload_n 2, 1) := by decide +kernel
theorem dX1_isLeftAlike_3 : decode cX1_isLeftAlike 3 = .ok (.aload_n 0, 1) := by decide +kernel
theorem dX1_isLeftAlike_4 : decode cX1_isLeftAlike 4 = .ok (.getfield 12, 3) := by decide +kernel
theorem dX1_isLeftAlike_7 : decode cX1_isLeftAlike 7 = .ok (.getfield 77, 3) := by decide +kernel
theorem dX1_isLeftAlike_10 : decode cX1_isLeftAlike 10 = .ok (.if_icmp .ge 25, 3) := by decide +kernel
theorem dX1_isLeftAlike_13 : decode cX1_isLeftAlike 13 = .ok (.aload_n 0, 1) := by decide +kernel
theorem dX1_isLeftAlike_14 : decode cX1_isLeftAlike 14 = .ok (.iload_n 2, 1) := by decide +kernel
theorem dX1_isLeftAlike_15 : decode cX1_isLeftAlike 15 = .ok (.invokevirtual 153, 3) := by decide +kernel
theorem dX1_isLeftAlike_18 : decode cX1_isLeftAlike 18 = .ok (.aload_n 1, 1) := by decide +kernel
theorem dX1_isLeftAlike_19 : decode cX1_isLeftAlike 19 = .ok (.iload_n 2, 1) := by decide +kernel
theorem dX1_isLeftAlike_20 : decode cX1_isLeftAlike 20 = .ok (.invokevirtual 153, 3) := by decide +kernel
theorem dX1_isLeftAlike_23 : decode cX1_isLeftAlike 23 = .ok (.lcmp, 1) := by decide +kernel
theorem dX1_isLeftAlike_24 : decode cX1_isLeftAlike 24 = .ok (.ifCond .eq 5, 3) := by decide +kernel
theorem dX1_isLeftAlike_27 : decode cX1_isLeftAlike 27 = .ok (.iconst 0, 1) := by decide +kernel
theorem dX1_isLeftAlike_28 : decode cX1_isLeftAlike 28 = .ok (.ireturn, 1) := by decide +kernel
theorem dX1_isLeftAlike_29 : decode cX1_isLeftAlike 29 = .ok (.iinc 2 1, 3) := by decide +kernel
theorem dX1_isLeftAlike_32 : decode cX1_isLeftAlike 32 = .ok (.goto (-30), 3) := by decide +kernel
theorem dX1_isLeftAlike_35 : decode cX1_isLeftAlike 35 = .ok (.iconst 1, 1) := by decide +kernel
theorem dX1_isLeftAlike_36 : decode cX1_isLeftAlike 36 = .ok (.ireturn, 1) := by decide +kernel
theorem dX1_findDead_0 : decode cX1_findDead 0 = .ok (.iconst 0, 1) := by decide +kernel
theorem dX1_findDead_1 : decode cX1_findDead 1 = .ok (.istore_n 1, 1) := by decide +kernel
theorem dX1_findDead_2 : decode cX1_findDead 2 = .ok (.iload_n 1, 1) := by decide +kernel
theorem dX1_findDead_3 : decode cX1_findDead 3 = .ok (.aload_n 0, 1) := by decide +kernel
theorem dX1_findDead_4 : decode cX1_findDead 4 = .ok (.getfield 12, 3) := by decide +kernel
theorem dX1_findDead_7 : decode cX1_findDead 7 = .ok (.getfield 77, 3) := by decide +kernel
theorem dX1_findDead_10 : decode cX1_findDead 10 = .ok (.if_icmp .ge 81, 3) := by decide +kernel
theorem dX1_findDead_13 : decode cX1_findDead 13 = .ok (.aload_n 0, 1) := by decide +kernel
theorem dX1_findDead_14 : decode cX1_findDead 14 = .ok (.getfield 12, 3) := by decide +kernel
theorem dX1_findDead_17 : decode cX1_findDead 17 = .ok (.getfield 80, 3) := by decide +kernel
theorem dX1_findDead_20 : decode cX1_findDead 20 = .ok (.iload_n 1, 1) := by decide +kernel
theorem dX1_findDead_21 : decode cX1_findDead 21 = .ok (.aaload, 1) := by decide +kernel
theorem dX1_findDead_22 : decode cX1_findDead 22 = .ok (.getfield 143, 3) := by decide +kernel
theorem dX1_findDead_25 : decode cX1_findDead 25 = .ok (.iconst 3, 1) := by decide +kernel
theorem dX1_findDead_26 : decode cX1_findDead 26 = .ok (.iaload, 1) := by decide +kernel
theorem dX1_findDead_27 : decode cX1_findDead 27 = .ok (.istore_n 2, 1) := by decide +kernel
theorem dX1_findDead_28 : decode cX1_findDead 28 = .ok (.aload_n 0, 1) := by decide +kernel
theorem dX1_findDead_29 : decode cX1_findDead 29 = .ok (.getfield 12, 3) := by decide +kernel
theorem dX1_findDead_32 : decode cX1_findDead 32 = .ok (.getfield 80, 3) := by decide +kernel
theorem dX1_findDead_35 : decode cX1_findDead 35 = .ok (.iload_n 1, 1) := by decide +kernel
theorem dX1_findDead_36 : decode cX1_findDead 36 = .ok (.aaload, 1) := by decide +kernel
theorem dX1_findDead_37 : decode cX1_findDead 37 = .ok (.getfield 143, 3) := by decide +kernel
theorem dX1_findDead_40 : decode cX1_findDead 40 = .ok (.iconst 5, 1) := by decide +kernel
theorem dX1_findDead_41 : decode cX1_findDead 41 = .ok (.iaload, 1) := by decide +kernel
theorem dX1_findDead_42 : decode cX1_findDead 42 = .ok (.aload_n 0, 1) := by decide +kernel
theorem dX1_findDead_43 : decode cX1_findDead 43 = .ok (.getfield 39, 3) := by decide +kernel
theorem dX1_findDead_46 : decode cX1_findDead 46 = .ok (.iload_n 1, 1) := by decide +kernel
theorem dX1_findDead_47 : decode cX1_findDead 47 = .ok (.iaload, 1) := by decide +kernel
theorem dX1_findDead_48 : decode cX1_findDead 48 = .ok (.invokestatic 133, 3) := by decide +kernel
theorem dX1_findDead_51 : decode cX1_findDead 51 = .ok (.istore_n 3, 1) := by decide +kernel
theorem dX1_findDead_52 : decode cX1_findDead 52 = .ok (.aload_n 0, 1) := by decide +kernel
theorem dX1_findDead_53 : decode cX1_findDead 53 = .ok (.getfield 49, 3) := by decide +kernel
theorem dX1_findDead_56 : decode cX1_findDead 56 = .ok (.iload_n 1, 1) := by decide +kernel
theorem dX1_findDead_57 : decode cX1_findDead 57 = .ok (.iload_n 2, 1) := by decide +kernel
theorem dX1_findDead_58 : decode cX1_findDead 58 = .ok (.ifCond .le 25, 3) := by decide +kernel
theorem dX1_findDead_61 : decode cX1_findDead 61 = .ok (.aload_n 0, 1) := by decide +kernel
theorem dX1_findDead_62 : decode cX1_findDead 62 = .ok (.getfield 25, 3) := by decide +kernel
theorem dX1_findDead_65 : decode cX1_findDead 65 = .ok (.iload_n 3, 1) := by decide +kernel
theorem dX1_findDead_66 : decode cX1_findDead 66 = .ok (.iload_n 2, 1) := by decide +kernel
theorem dX1_findDead_67 : decode cX1_findDead 67 = .ok (.iadd, 1) := by decide +kernel
theorem dX1_findDead_68 : decode cX1_findDead 68 = .ok (.if_icmp .le 15, 3) := by decide +kernel
theorem dX1_findDead_71 : decode cX1_findDead 71 = .ok (.aload_n 0, 1) := by decide +kernel
theorem dX1_findDead_72 : decode cX1_findDead 72 = .ok (.iload_n 1, 1) := by decide +kernel
theorem dX1_findDead_73 : decode cX1_findDead 73 = .ok (.invokevirtual 156, 3) := by decide +kernel
theorem dX1_findDead_76 : decode cX1_findDead 76 = .ok (.ifCond .eq 7, 3) := by decide +kernel
theorem dX1_findDead_79 : decode cX1_findDead 79 = .ok (.iconst 1, 1) := by decide +kernel
theorem dX1_findDead_80 : decode cX1_findDead 80 = .ok (.goto 4, 3) := by decide +kernel
theorem dX1_findDead_83 : decode cX1_findDead 83 = .ok (.iconst 0, 1) := by decide +kernel
theorem dX1_findDead_84 : decode cX1_findDead 84 = .ok (.bastore, 1) := by decide +kernel
theorem dX1_findDead_85 : decode cX1_findDead 85 = .ok (.iinc 1 1, 3) := by decide +kernel
theorem dX1_findDead_88 : decode cX1_findDead 88 = .ok (.goto (-86), 3) := by decide +kernel
theorem dX1_findDead_91 : decode cX1_findDead 91 = .ok (.return_, 1) := by decide +kernel
theorem dX1_orderOpen_0 : decode cX1_orderOpen 0 = .ok (.iconst 0, 1) := by decide +kernel
theorem dX1_orderOpen_1 : decode cX1_orderOpen 1 = .ok (.istore_n 1, 1) := by decide +kernel
theorem dX1_orderOpen_2 : decode cX1_orderOpen 2 = .ok (.aload_n 0, 1) := by decide +kernel
theorem dX1_orderOpen_3 : decode cX1_orderOpen 3 = .ok (.getfield 21, 3) := by decide +kernel
theorem dX1_orderOpen_6 : decode cX1_orderOpen 6 = .ok (.bipush 120, 2) := by decide +kernel
theorem dX1_orderOpen_8 : decode cX1_orderOpen 8 = .ok (.invokevirtual 160, 3) := by decide +kernel
theorem dX1_orderOpen_11 : decode cX1_orderOpen 11 = .ok (.istore_n 2, 1) := by decide +kernel
theorem dX1_orderOpen_12 : decode cX1_orderOpen 12 = .ok (.iconst 0, 1) := by decide +kernel
theorem dX1_orderOpen_13 : decode cX1_orderOpen 13 = .ok (.istore_n 3, 1) := by decide +kernel
theorem dX1_orderOpen_14 : decode cX1_orderOpen 14 = .ok (.iload_n 3, 1) := by decide +kernel
theorem dX1_orderOpen_15 : decode cX1_orderOpen 15 = .ok (.aload_n 0, 1) := by decide +kernel
theorem dX1_orderOpen_16 : decode cX1_orderOpen 16 = .ok (.getfield 12, 3) := by decide +kernel
theorem dX1_orderOpen_19 : decode cX1_orderOpen 19 = .ok (.getfield 77, 3) := by decide +kernel
theorem dX1_orderOpen_22 : decode cX1_orderOpen 22 = .ok (.if_icmp .ge 88, 3) := by decide +kernel
theorem dX1_orderOpen_25 : decode cX1_orderOpen 25 = .ok (.aload_n 0, 1) := by decide +kernel
theorem dX1_orderOpen_26 : decode cX1_orderOpen 26 = .ok (.iload_n 3, 1) := by decide +kernel
theorem dX1_orderOpen_27 : decode cX1_orderOpen 27 = .ok (.invokevirtual 156, 3) := by decide +kernel
theorem dX1_orderOpen_30 : decode cX1_orderOpen 30 = .ok (.ifCond .eq 74, 3) := by decide +kernel
theorem dX1_orderOpen_33 : decode cX1_orderOpen 33 = .ok (.iload_n 2, 1) := by decide +kernel
theorem dX1_orderOpen_34 : decode cX1_orderOpen 34 = .ok (.ifCond .eq 12, 3) := by decide +kernel
theorem dX1_orderOpen_37 : decode cX1_orderOpen 37 = .ok (.aload_n 0, 1) := by decide +kernel
theorem dX1_orderOpen_38 : decode cX1_orderOpen 38 = .ok (.getfield 49, 3) := by decide +kernel
theorem dX1_orderOpen_41 : decode cX1_orderOpen 41 = .ok (.iload_n 3, 1) := by decide +kernel
theorem dX1_orderOpen_42 : decode cX1_orderOpen 42 = .ok (.baload, 1) := by decide +kernel
theorem dX1_orderOpen_43 : decode cX1_orderOpen 43 = .ok (.ifCond .ne 61, 3) := by decide +kernel
theorem dX1_orderOpen_46 : decode cX1_orderOpen 46 = .ok (.iload_n 1, 1) := by decide +kernel
theorem dX1_orderOpen_47 : decode cX1_orderOpen 47 = .ok (.istore 4, 2) := by decide +kernel
theorem dX1_orderOpen_49 : decode cX1_orderOpen 49 = .ok (.iload 4, 2) := by decide +kernel
theorem dX1_orderOpen_51 : decode cX1_orderOpen 51 = .ok (.ifCond .le 42, 3) := by decide +kernel
theorem dX1_orderOpen_54 : decode cX1_orderOpen 54 = .ok (.aload_n 0, 1) := by decide +kernel
theorem dX1_orderOpen_55 : decode cX1_orderOpen 55 = .ok (.iload_n 3, 1) := by decide +kernel
theorem dX1_orderOpen_56 : decode cX1_orderOpen 56 = .ok (.aload_n 0, 1) := by decide +kernel
theorem dX1_orderOpen_57 : decode cX1_orderOpen 57 = .ok (.getfield 53, 3) := by decide +kernel
theorem dX1_orderOpen_60 : decode cX1_orderOpen 60 = .ok (.iload 4, 2) := by decide +kernel
theorem dX1_orderOpen_62 : decode cX1_orderOpen 62 = .ok (.iconst 1, 1) := by decide +kernel
theorem dX1_orderOpen_63 : decode cX1_orderOpen 63 = .ok (.isub, 1) := by decide +kernel
theorem dX1_orderOpen_64 : decode cX1_orderOpen 64 = .ok (.iaload, 1) := by decide +kernel
theorem dX1_orderOpen_65 : decode cX1_orderOpen 65 = .ok (.invokevirtual 163, 3) := by decide +kernel
theorem dX1_orderOpen_68 : decode cX1_orderOpen 68 = .ok (.ifCond .ge 25, 3) := by decide +kernel
theorem dX1_orderOpen_71 : decode cX1_orderOpen 71 = .ok (.aload_n 0, 1) := by decide +kernel
theorem dX1_orderOpen_72 : decode cX1_orderOpen 72 = .ok (.getfield 53, 3) := by decide +kernel
theorem dX1_orderOpen_75 : decode cX1_orderOpen 75 = .ok (.iload 4, 2) := by decide +kernel
theorem dX1_orderOpen_77 : decode cX1_orderOpen 77 = .ok (.aload_n 0, 1) := by decide +kernel
theorem dX1_orderOpen_78 : decode cX1_orderOpen 78 = .ok (.getfield 53, 3) := by decide +kernel
theorem dX1_orderOpen_81 : decode cX1_orderOpen 81 = .ok (.iload 4, 2) := by decide +kernel
theorem dX1_orderOpen_83 : decode cX1_orderOpen 83 = .ok (.iconst 1, 1) := by decide +kernel
theorem dX1_orderOpen_84 : decode cX1_orderOpen 84 = .ok (.isub, 1) := by decide +kernel
theorem dX1_orderOpen_85 : decode cX1_orderOpen 85 = .ok (.iaload, 1) := by decide +kernel
theorem dX1_orderOpen_86 : decode cX1_orderOpen 86 = .ok (.iastore, 1) := by decide +kernel
theorem dX1_orderOpen_87 : decode cX1_orderOpen 87 = .ok (.iinc 4 (-1), 3) := by decide +kernel
theorem dX1_orderOpen_90 : decode cX1_orderOpen 90 = .ok (.goto (-41), 3) := by decide +kernel
theorem dX1_orderOpen_93 : decode cX1_orderOpen 93 = .ok (.aload_n 0, 1) := by decide +kernel
theorem dX1_orderOpen_94 : decode cX1_orderOpen 94 = .ok (.getfield 53, 3) := by decide +kernel
theorem dX1_orderOpen_97 : decode cX1_orderOpen 97 = .ok (.iload 4, 2) := by decide +kernel
theorem dX1_orderOpen_99 : decode cX1_orderOpen 99 = .ok (.iload_n 3, 1) := by decide +kernel
theorem dX1_orderOpen_100 : decode cX1_orderOpen 100 = .ok (.iastore, 1) := by decide +kernel
theorem dX1_orderOpen_101 : decode cX1_orderOpen 101 = .ok (.iinc 1 1, 3) := by decide +kernel
theorem dX1_orderOpen_104 : decode cX1_orderOpen 104 = .ok (.iinc 3 1, 3) := by decide +kernel
theorem dX1_orderOpen_107 : decode cX1_orderOpen 107 = .ok (.goto (-93), 3) := by decide +kernel
theorem dX1_orderOpen_110 : decode cX1_orderOpen 110 = .ok (.iload_n 1, 1) := by decide +kernel
theorem dX1_orderOpen_111 : decode cX1_orderOpen 111 = .ok (.ireturn, 1) := by decide +kernel
theorem dX1_compareByKeys_0 : decode cX1_compareByKeys 0 = .ok (.aload_n 0, 1) := by decide +kernel
theorem dX1_compareByKeys_1 : decode cX1_compareByKeys 1 = .ok (.getfield 12, 3) := by decide +kernel
theorem dX1_compareByKeys_4 : decode cX1_compareByKeys 4 = .ok (.getfield 80, 3) := by decide +kernel
theorem dX1_compareByKeys_7 : decode cX1_compareByKeys 7 = .ok (.iload_n 1, 1) := by decide +kernel
theorem dX1_compareByKeys_8 : decode cX1_compareByKeys 8 = .ok (.aaload, 1) := by decide +kernel
theorem dX1_compareByKeys_9 : decode cX1_compareByKeys 9 = .ok (.astore_n 3, 1) := by decide +kernel
theorem dX1_compareByKeys_10 : decode cX1_compareByKeys 10 = .ok (.aload_n 0, 1) := by decide +kernel
theorem dX1_compareByKeys_11 : decode cX1_compareByKeys 11 = .ok (.getfield 12, 3) := by decide +kernel
theorem dX1_compareByKeys_14 : decode cX1_compareByKeys 14 = .ok (.getfield 80, 3) := by decide +kernel
theorem dX1_compareByKeys_17 : decode cX1_compareByKeys 17 = .ok (.iload_n 2, 1) := by decide +kernel
theorem dX1_compareByKeys_18 : decode cX1_compareByKeys 18 = .ok (.aaload, 1) := by decide +kernel
theorem dX1_compareByKeys_19 : decode cX1_compareByKeys 19 = .ok (.astore 4, 2) := by decide +kernel
theorem dX1_compareByKeys_21 : decode cX1_compareByKeys 21 = .ok (.iconst 0, 1) := by decide +kernel
theorem dX1_compareByKeys_22 : decode cX1_compareByKeys 22 = .ok (.istore 5, 2) := by decide +kernel
theorem dX1_compareByKeys_24 : decode cX1_compareByKeys 24 = .ok (.iload 5, 2) := by decide +kernel
theorem dX1_compareByKeys_26 : decode cX1_compareByKeys 26 = .ok (.aload_n 0, 1) := by decide +kernel
theorem dX1_compareByKeys_27 : decode cX1_compareByKeys 27 = .ok (.getfield 21, 3) := by decide +kernel
theorem dX1_compareByKeys_30 : decode cX1_compareByKeys 30 = .ok (.getfield 166, 3) := by decide +kernel
theorem dX1_compareByKeys_33 : decode cX1_compareByKeys 33 = .ok (.if_icmp .ge 231, 3) := by decide +kernel
theorem dX1_compareByKeys_36 : decode cX1_compareByKeys 36 = .ok (.iconst 0, 1) := by decide +kernel
theorem dX1_compareByKeys_37 : decode cX1_compareByKeys 37 = .ok (.istore 6, 2) := by decide +kernel
theorem dX1_compareByKeys_39 : decode cX1_compareByKeys 39 = .ok (.aload_n 0, 1) := by decide +kernel
theorem dX1_compareByKeys_40 : decode cX1_compareByKeys 40 = .ok (.getfield 21, 3) := by decide +kernel
theorem dX1_compareByKeys_43 : decode cX1_compareByKeys 43 = .ok (.getfield 169, 3) := by decide +kernel
theorem dX1_compareByKeys_46 : decode cX1_compareByKeys 46 = .ok (.iload 5, 2) := by decide +kernel
theorem dX1_compareByKeys_48 : decode cX1_compareByKeys 48 = .ok (.iaload, 1) := by decide +kernel
theorem dX1_compareByKeys_49 : decode cX1_compareByKeys 49 = .ok (.lookupswitch 201 #[(100, 51), (104, 96), (108, 167), (111, 150), (117, 117)], 51) := by decide +kernel
theorem dX1_compareByKeys_100 : decode cX1_compareByKeys 100 = .ok (.aload_n 3, 1) := by decide +kernel
theorem dX1_compareByKeys_101 : decode cX1_compareByKeys 101 = .ok (.getfield 143, 3) := by decide +kernel
theorem dX1_compareByKeys_104 : decode cX1_compareByKeys 104 = .ok (.iconst 5, 1) := by decide +kernel
theorem dX1_compareByKeys_105 : decode cX1_compareByKeys 105 = .ok (.iaload, 1) := by decide +kernel
theorem dX1_compareByKeys_106 : decode cX1_compareByKeys 106 = .ok (.aload_n 0, 1) := by decide +kernel
theorem dX1_compareByKeys_107 : decode cX1_compareByKeys 107 = .ok (.getfield 25, 3) := by decide +kernel
theorem dX1_compareByKeys_110 : decode cX1_compareByKeys 110 = .ok (.if_icmp .gt 7, 3) := by decide +kernel
theorem dX1_compareByKeys_113 : decode cX1_compareByKeys 113 = .ok (.iconst 1, 1) := by decide +kernel
theorem dX1_compareByKeys_114 : decode cX1_compareByKeys 114 = .ok (.goto 4, 3) := by decide +kernel
theorem dX1_compareByKeys_117 : decode cX1_compareByKeys 117 = .ok (.iconst 0, 1) := by decide +kernel
theorem dX1_compareByKeys_118 : decode cX1_compareByKeys 118 = .ok (.aload 4, 2) := by decide +kernel
theorem dX1_compareByKeys_120 : decode cX1_compareByKeys 120 = .ok (.getfield 143, 3) := by decide +kernel
theorem dX1_compareByKeys_123 : decode cX1_compareByKeys 123 = .ok (.iconst 5, 1) := by decide +kernel
theorem dX1_compareByKeys_124 : decode cX1_compareByKeys 124 = .ok (.iaload, 1) := by decide +kernel
theorem dX1_compareByKeys_125 : decode cX1_compareByKeys 125 = .ok (.aload_n 0, 1) := by decide +kernel
theorem dX1_compareByKeys_126 : decode cX1_compareByKeys 126 = .ok (.getfield 25, 3) := by decide +kernel
theorem dX1_compareByKeys_129 : decode cX1_compareByKeys 129 = .ok (.if_icmp .gt 7, 3) := by decide +kernel
theorem dX1_compareByKeys_132 : decode cX1_compareByKeys 132 = .ok (.iconst 1, 1) := by decide +kernel
theorem dX1_compareByKeys_133 : decode cX1_compareByKeys 133 = .ok (.goto 4, 3) := by decide +kernel
theorem dX1_compareByKeys_136 : decode cX1_compareByKeys 136 = .ok (.iconst 0, 1) := by decide +kernel
theorem dX1_compareByKeys_137 : decode cX1_compareByKeys 137 = .ok (.invokestatic 172, 3) := by decide +kernel
theorem dX1_compareByKeys_140 : decode cX1_compareByKeys 140 = .ok (.istore 6, 2) := by decide +kernel
theorem dX1_compareByKeys_142 : decode cX1_compareByKeys 142 = .ok (.goto 108, 3) := by decide +kernel
theorem dX1_compareByKeys_145 : decode cX1_compareByKeys 145 = .ok (.aload 4, 2) := by decide +kernel
theorem dX1_compareByKeys_147 : decode cX1_compareByKeys 147 = .ok (.getfield 143, 3) := by decide +kernel
theorem dX1_compareByKeys_150 : decode cX1_compareByKeys 150 = .ok (.iconst 4, 1) := by decide +kernel
theorem dX1_compareByKeys_151 : decode cX1_compareByKeys 151 = .ok (.iaload, 1) := by decide +kernel
theorem dX1_compareByKeys_152 : decode cX1_compareByKeys 152 = .ok (.aload_n 3, 1) := by decide +kernel
theorem dX1_compareByKeys_153 : decode cX1_compareByKeys 153 = .ok (.getfield 143, 3) := by decide +kernel
theorem dX1_compareByKeys_156 : decode cX1_compareByKeys 156 = .ok (.iconst 4, 1) := by decide +kernel
theorem dX1_compareByKeys_157 : decode cX1_compareByKeys 157 = .ok (.iaload, 1) := by decide +kernel
theorem dX1_compareByKeys_158 : decode cX1_compareByKeys 158 = .ok (.invokestatic 176, 3) := by decide +kernel
theorem dX1_compareByKeys_161 : decode cX1_compareByKeys 161 = .ok (.istore 6, 2) := by decide +kernel
theorem dX1_compareByKeys_163 : decode cX1_compareByKeys 163 = .ok (.goto 87, 3) := by decide +kernel
theorem dX1_compareByKeys_166 : decode cX1_compareByKeys 166 = .ok (.aload_n 3, 1) := by decide +kernel
theorem dX1_compareByKeys_167 : decode cX1_compareByKeys 167 = .ok (.invokevirtual 181, 3) := by decide +kernel
theorem dX1_compareByKeys_170 : decode cX1_compareByKeys 170 = .ok (.ifCond .ne 7, 3) := by decide +kernel
theorem dX1_compareByKeys_173 : decode cX1_compareByKeys 173 = .ok (.iconst 1, 1) := by decide +kernel
theorem dX1_compareByKeys_174 : decode cX1_compareByKeys 174 = .ok (.goto 4, 3) := by decide +kernel
theorem dX1_compareByKeys_177 : decode cX1_compareByKeys 177 = .ok (.iconst 0, 1) := by decide +kernel
theorem dX1_compareByKeys_178 : decode cX1_compareByKeys 178 = .ok (.aload 4, 2) := by decide +kernel
theorem dX1_compareByKeys_180 : decode cX1_compareByKeys 180 = .ok (.invokevirtual 181, 3) := by decide +kernel
theorem dX1_compareByKeys_183 : decode cX1_compareByKeys 183 = .ok (.ifCond .ne 7, 3) := by decide +kernel
theorem dX1_compareByKeys_186 : decode cX1_compareByKeys 186 = .ok (.iconst 1, 1) := by decide +kernel
theorem dX1_compareByKeys_187 : decode cX1_compareByKeys 187 = .ok (.goto 4, 3) := by decide +kernel
theorem dX1_compareByKeys_190 : decode cX1_compareByKeys 190 = .ok (.iconst 0, 1) := by decide +kernel
theorem dX1_compareByKeys_191 : decode cX1_compareByKeys 191 = .ok (.invokestatic 172, 3) := by decide +kernel
theorem dX1_compareByKeys_194 : decode cX1_compareByKeys 194 = .ok (.istore 6, 2) := by decide +kernel
theorem dX1_compareByKeys_196 : decode cX1_compareByKeys 196 = .ok (.goto 54, 3) := by decide +kernel
theorem dX1_compareByKeys_199 : decode cX1_compareByKeys 199 = .ok (.aload_n 3, 1) := by decide +kernel
theorem dX1_compareByKeys_200 : decode cX1_compareByKeys 200 = .ok (.getfield 130, 3) := by decide +kernel
theorem dX1_compareByKeys_203 : decode cX1_compareByKeys 203 = .ok (.aload 4, 2) := by decide +kernel
theorem dX1_compareByKeys_205 : decode cX1_compareByKeys 205 = .ok (.getfield 130, 3) := by decide +kernel
theorem dX1_compareByKeys_208 : decode cX1_compareByKeys 208 = .ok (.invokestatic 176, 3) := by decide +kernel
theorem dX1_compareByKeys_211 : decode cX1_compareByKeys 211 = .ok (.istore 6, 2) := by decide +kernel
theorem dX1_compareByKeys_213 : decode cX1_compareByKeys 213 = .ok (.goto 37, 3) := by decide +kernel
theorem dX1_compareByKeys_216 : decode cX1_compareByKeys 216 = .ok (.aload_n 0, 1) := by decide +kernel
theorem dX1_compareByKeys_217 : decode cX1_compareByKeys 217 = .ok (.getfield 32, 3) := by decide +kernel
theorem dX1_compareByKeys_220 : decode cX1_compareByKeys 220 = .ok (.iload_n 2, 1) := by decide +kernel
theorem dX1_compareByKeys_221 : decode cX1_compareByKeys 221 = .ok (.laload, 1) := by decide +kernel
theorem dX1_compareByKeys_222 : decode cX1_compareByKeys 222 = .ok (.aload_n 0, 1) := by decide +kernel
theorem dX1_compareByKeys_223 : decode cX1_compareByKeys 223 = .ok (.getfield 36, 3) := by decide +kernel
theorem dX1_compareByKeys_226 : decode cX1_compareByKeys 226 = .ok (.iload_n 2, 1) := by decide +kernel
theorem dX1_compareByKeys_227 : decode cX1_compareByKeys 227 = .ok (.laload, 1) := by decide +kernel
theorem dX1_compareByKeys_228 : decode cX1_compareByKeys 228 = .ok (.ladd, 1) := by decide +kernel
theorem dX1_compareByKeys_229 : decode cX1_compareByKeys 229 = .ok (.aload_n 0, 1) := by decide +kernel
theorem dX1_compareByKeys_230 : decode cX1_compareByKeys 230 = .ok (.getfield 32, 3) := by decide +kernel
theorem dX1_compareByKeys_233 : decode cX1_compareByKeys 233 = .ok (.iload_n 1, 1) := by decide +kernel
theorem dX1_compareByKeys_234 : decode cX1_compareByKeys 234 = .ok (.laload, 1) := by decide +kernel
theorem dX1_compareByKeys_235 : decode cX1_compareByKeys 235 = .ok (.aload_n 0, 1) := by decide +kernel
theorem dX1_compareByKeys_236 : decode cX1_compareByKeys 236 = .ok (.getfield 36, 3) := by decide +kernel
theorem dX1_compareByKeys_239 : decode cX1_compareByKeys 239 = .ok (.iload_n 1, 1) := by decide +kernel
theorem dX1_compareByKeys_240 : decode cX1_compareByKeys 240 = .ok (.laload, 1) := by decide +kernel
theorem dX1_compareByKeys_241 : decode cX1_compareByKeys 241 = .ok (.ladd, 1) := by decide +kernel
theorem dX1_compareByKeys_242 : decode cX1_compareByKeys 242 = .ok (.invokestatic 185, 3) := by decide +kernel
theorem dX1_compareByKeys_245 : decode cX1_compareByKeys 245 = .ok (.istore 6, 2) := by decide +kernel
theorem dX1_compareByKeys_247 : decode cX1_compareByKeys 247 = .ok (.goto 3, 3) := by decide +kernel
theorem dX1_compareByKeys_250 : decode cX1_compareByKeys 250 = .ok (.iload 6, 2) := by decide +kernel
theorem dX1_compareByKeys_252 : decode cX1_compareByKeys 252 = .ok (.ifCond .eq 6, 3) := by decide +kernel
theorem dX1_compareByKeys_255 : decode cX1_compareByKeys 255 = .ok (.iload 6, 2) := by decide +kernel
theorem dX1_compareByKeys_257 : decode cX1_compareByKeys 257 = .ok (.ireturn, 1) := by decide +kernel
theorem dX1_compareByKeys_258 : decode cX1_compareByKeys 258 = .ok (.iinc 5 1, 3) := by decide +kernel
theorem dX1_compareByKeys_261 : decode cX1_compareByKeys 261 = .ok (.goto (-237), 3) := by decide +kernel
theorem dX1_compareByKeys_264 : decode cX1_compareByKeys 264 = .ok (.iconst 0, 1) := by decide +kernel
theorem dX1_compareByKeys_265 : decode cX1_compareByKeys 265 = .ok (.ireturn, 1) := by decide +kernel
theorem dX1_firstIf_0 : decode cX1_firstIf 0 = .ok (.iload_n 0, 1) := by decide +kernel
theorem dX1_firstIf_1 : decode cX1_firstIf 1 = .ok (.iload_n 1, 1) := by decide +kernel
theorem dX1_firstIf_2 : decode cX1_firstIf 2 = .ok (.if_icmp .ne 7, 3) := by decide +kernel
theorem dX1_firstIf_5 : decode cX1_firstIf 5 = .ok (.iconst 0, 1) := by decide +kernel
theorem dX1_firstIf_6 : decode cX1_firstIf 6 = .ok (.goto 12, 3) := by decide +kernel
theorem dX1_firstIf_9 : decode cX1_firstIf 9 = .ok (.iload_n 0, 1) := by decide +kernel
theorem dX1_firstIf_10 : decode cX1_firstIf 10 = .ok (.ifCond .eq 7, 3) := by decide +kernel
theorem dX1_firstIf_13 : decode cX1_firstIf 13 = .ok (.iconst (-1), 1) := by decide +kernel
theorem dX1_firstIf_14 : decode cX1_firstIf 14 = .ok (.goto 4, 3) := by decide +kernel
theorem dX1_firstIf_17 : decode cX1_firstIf 17 = .ok (.iconst 1, 1) := by decide +kernel
theorem dX1_firstIf_18 : decode cX1_firstIf 18 = .ok (.ireturn, 1) := by decide +kernel
theorem dX1_chosenDebt_0 : decode cX1_chosenDebt 0 = .ok (.aload_n 0, 1) := by decide +kernel
theorem dX1_chosenDebt_1 : decode cX1_chosenDebt 1 = .ok (.getfield 21, 3) := by decide +kernel
theorem dX1_chosenDebt_4 : decode cX1_chosenDebt 4 = .ok (.bipush 99, 2) := by decide +kernel
theorem dX1_chosenDebt_6 : decode cX1_chosenDebt 6 = .ok (.invokevirtual 160, 3) := by decide +kernel
theorem dX1_chosenDebt_9 : decode cX1_chosenDebt 9 = .ok (.ifCond .eq 19, 3) := by decide +kernel
theorem dX1_chosenDebt_12 : decode cX1_chosenDebt 12 = .ok (.aload_n 0, 1) := by decide +kernel
theorem dX1_chosenDebt_13 : decode cX1_chosenDebt 13 = .ok (.aload_n 1, 1) := by decide +kernel
theorem dX1_chosenDebt_14 : decode cX1_chosenDebt 14 = .ok (.getfield 190, 3) := by decide +kernel
theorem dX1_chosenDebt_17 : decode cX1_chosenDebt 17 = .ok (.invokevirtual 156, 3) := by decide +kernel
theorem dX1_chosenDebt_20 : decode cX1_chosenDebt 20 = .ok (.ifCond .eq 8, 3) := by decide +kernel
theorem dX1_chosenDebt_23 : decode cX1_chosenDebt 23 = .ok (.aload_n 1, 1) := by decide +kernel
theorem dX1_chosenDebt_24 : decode cX1_chosenDebt 24 = .ok (.getfield 190, 3) := by decide +kernel
theorem dX1_chosenDebt_27 : decode cX1_chosenDebt 27 = .ok (.ireturn, 1) := by decide +kernel
theorem dX1_chosenDebt_28 : decode cX1_chosenDebt 28 = .ok (.aload_n 0, 1) := by decide +kernel
theorem dX1_chosenDebt_29 : decode cX1_chosenDebt 29 = .ok (.getfield 21, 3) := by decide +kernel
theorem dX1_chosenDebt_32 : decode cX1_chosenDebt 32 = .ok (.bipush 116, 2) := by decide +kernel
theorem dX1_chosenDebt_34 : decode cX1_chosenDebt 34 = .ok (.invokevirtual 160, 3) := by decide +kernel
theorem dX1_chosenDebt_37 : decode cX1_chosenDebt 37 = .ok (.ifCond .eq 19, 3) := by decide +kernel
theorem dX1_chosenDebt_40 : decode cX1_chosenDebt 40 = .ok (.aload_n 0, 1) := by decide +kernel
theorem dX1_chosenDebt_41 : decode cX1_chosenDebt 41 = .ok (.aload_n 1, 1) := by decide +kernel
theorem dX1_chosenDebt_42 : decode cX1_chosenDebt 42 = .ok (.getfield 193, 3) := by decide +kernel
theorem dX1_chosenDebt_45 : decode cX1_chosenDebt 45 = .ok (.invokevirtual 156, 3) := by decide +kernel
theorem dX1_chosenDebt_48 : decode cX1_chosenDebt 48 = .ok (.ifCond .eq 8, 3) := by decide +kernel
theorem dX1_chosenDebt_51 : decode cX1_chosenDebt 51 = .ok (.aload_n 1, 1) := by decide +kernel
theorem dX1_chosenDebt_52 : decode cX1_chosenDebt 52 = .ok (.getfield 193, 3) := by decide +kernel
theorem dX1_chosenDebt_55 : decode cX1_chosenDebt 55 = .ok (.ireturn, 1) := by decide +kernel
theorem dX1_chosenDebt_56 : decode cX1_chosenDebt 56 = .ok (.iconst (-1), 1) := by decide +kernel
theorem dX1_chosenDebt_57 : decode cX1_chosenDebt 57 = .ok (.ireturn, 1) := by decide +kernel
theorem dX1_heedsWord_0 : decode cX1_heedsWord 0 = .ok (.aload_n 0, 1) := by decide +kernel
theorem dX1_heedsWord_1 : decode cX1_heedsWord 1 = .ok (.getfield 21, 3) := by decide +kernel
theorem dX1_heedsWord_4 : decode cX1_heedsWord 4 = .ok (.bipush 99, 2) := by decide +kernel
theorem dX1_heedsWord_6 : decode cX1_heedsWord 6 = .ok (.invokevirtual 160, 3) := by decide +kernel
theorem dX1_heedsWord_9 : decode cX1_heedsWord 9 = .ok (.ifCond .eq 15, 3) := by decide +kernel
theorem dX1_heedsWord_12 : decode cX1_heedsWord 12 = .ok (.aload_n 0, 1) := by decide +kernel
theorem dX1_heedsWord_13 : decode cX1_heedsWord 13 = .ok (.iload_n 1, 1) := by decide +kernel
theorem dX1_heedsWord_14 : decode cX1_heedsWord 14 = .ok (.invokevirtual 156, 3) := by decide +kernel
theorem dX1_heedsWord_17 : decode cX1_heedsWord 17 = .ok (.ifCond .eq 7, 3) := by decide +kernel
theorem dX1_heedsWord_20 : decode cX1_heedsWord 20 = .ok (.iconst 1, 1) := by decide +kernel
theorem dX1_heedsWord_21 : decode cX1_heedsWord 21 = .ok (.goto 4, 3) := by decide +kernel
theorem dX1_heedsWord_24 : decode cX1_heedsWord 24 = .ok (.iconst 0, 1) := by decide +kernel
theorem dX1_heedsWord_25 : decode cX1_heedsWord 25 = .ok (.ireturn, 1) := by decide +kernel
theorem dX1_distribute_0 : decode cX1_distribute 0 = .ok (.aload_n 0, 1) := by decide +kernel
theorem dX1_distribute_1 : decode cX1_distribute 1 = .ok (.getfield 56, 3) := by decide +kernel
theorem dX1_distribute_4 : decode cX1_distribute 4 = .ok (.lconst 0, 1) := by decide +kernel
theorem dX1_distribute_5 : decode cX1_distribute 5 = .ok (.invokestatic 196, 3) := by decide +kernel
theorem dX1_distribute_8 : decode cX1_distribute 8 = .ok (.aload_n 0, 1) := by decide +kernel
theorem dX1_distribute_9 : decode cX1_distribute 9 = .ok (.getfield 59, 3) := by decide +kernel
theorem dX1_distribute_12 : decode cX1_distribute 12 = .ok (.lconst 0, 1) := by decide +kernel
theorem dX1_distribute_13 : decode cX1_distribute 13 = .ok (.invokestatic 196, 3) := by decide +kernel
theorem dX1_distribute_16 : decode cX1_distribute 16 = .ok (.aload_n 0, 1) := by decide +kernel
theorem dX1_distribute_17 : decode cX1_distribute 17 = .ok (.invokevirtual 202, 3) := by decide +kernel
theorem dX1_distribute_20 : decode cX1_distribute 20 = .ok (.lload_n 1, 1) := by decide +kernel
theorem dX1_distribute_21 : decode cX1_distribute 21 = .ok (.lstore 4, 2) := by decide +kernel
theorem dX1_distribute_23 : decode cX1_distribute 23 = .ok (.iload_n 3, 1) := by decide +kernel
theorem dX1_distribute_24 : decode cX1_distribute 24 = .ok (.iconst (-1), 1) := by decide +kernel
theorem dX1_distribute_25 : decode cX1_distribute 25 = .ok (.if_icmp .eq 15, 3) := by decide +kernel
theorem dX1_distribute_28 : decode cX1_distribute 28 = .ok (.lload 4, 2) := by decide +kernel
theorem dX1_distribute_30 : decode cX1_distribute 30 = .ok (.aload_n 0, 1) := by decide +kernel
theorem dX1_distribute_31 : decode cX1_distribute 31 = .ok (.iload_n 3, 1) := by decide +kernel
theorem dX1_distribute_32 : decode cX1_distribute 32 = .ok (.lload 4, 2) := by decide +kernel
theorem dX1_distribute_34 : decode cX1_distribute 34 = .ok (.invokevirtual 205, 3) := by decide +kernel
theorem dX1_distribute_37 : decode cX1_distribute 37 = .ok (.lsub, 1) := by decide +kernel
theorem dX1_distribute_38 : decode cX1_distribute 38 = .ok (.lstore 4, 2) := by decide +kernel
theorem dX1_distribute_40 : decode cX1_distribute 40 = .ok (.lload 4, 2) := by decide +kernel
theorem dX1_distribute_42 : decode cX1_distribute 42 = .ok (.lconst 0, 1) := by decide +kernel
theorem dX1_distribute_43 : decode cX1_distribute 43 = .ok (.lcmp, 1) := by decide +kernel
theorem dX1_distribute_44 : decode cX1_distribute 44 = .ok (.ifCond .le 10, 3) := by decide +kernel
theorem dX1_distribute_47 : decode cX1_distribute 47 = .ok (.aload_n 0, 1) := by decide +kernel
theorem dX1_distribute_48 : decode cX1_distribute 48 = .ok (.invokevirtual 209, 3) := by decide +kernel
theorem dX1_distribute_51 : decode cX1_distribute 51 = .ok (.goto 4, 3) := by decide +kernel
theorem dX1_distribute_54 : decode cX1_distribute 54 = .ok (.iconst 0, 1) := by decide +kernel
theorem dX1_distribute_55 : decode cX1_distribute 55 = .ok (.istore 6, 2) := by decide +kernel
theorem dX1_distribute_57 : decode cX1_distribute 57 = .ok (.aload_n 0, 1) := by decide +kernel
theorem dX1_distribute_58 : decode cX1_distribute 58 = .ok (.getfield 21, 3) := by decide +kernel
theorem dX1_distribute_61 : decode cX1_distribute 61 = .ok (.bipush 112, 2) := by decide +kernel
theorem dX1_distribute_63 : decode cX1_distribute 63 = .ok (.invokevirtual 160, 3) := by decide +kernel
theorem dX1_distribute_66 : decode cX1_distribute 66 = .ok (.istore 7, 2) := by decide +kernel
theorem dX1_distribute_68 : decode cX1_distribute 68 = .ok (.iconst 0, 1) := by decide +kernel
theorem dX1_distribute_69 : decode cX1_distribute 69 = .ok (.istore 9, 2) := by decide +kernel
theorem dX1_distribute_71 : decode cX1_distribute 71 = .ok (.iload 9, 2) := by decide +kernel
theorem dX1_distribute_73 : decode cX1_distribute 73 = .ok (.iload 6, 2) := by decide +kernel
theorem dX1_distribute_75 : decode cX1_distribute 75 = .ok (.if_icmp .ge 74, 3) := by decide +kernel
theorem dX1_distribute_78 : decode cX1_distribute 78 = .ok (.lload 4, 2) := by decide +kernel
theorem dX1_distribute_80 : decode cX1_distribute 80 = .ok (.lconst 0, 1) := by decide +kernel
theorem dX1_distribute_81 : decode cX1_distribute 81 = .ok (.lcmp, 1) := by decide +kernel
theorem dX1_distribute_82 : decode cX1_distribute 82 = .ok (.ifCond .le 67, 3) := by decide +kernel
theorem dX1_distribute_85 : decode cX1_distribute 85 = .ok (.iload 9, 2) := by decide +kernel
theorem dX1_distribute_87 : decode cX1_distribute 87 = .ok (.iconst 1, 1) := by decide +kernel
theorem dX1_distribute_88 : decode cX1_distribute 88 = .ok (.iadd, 1) := by decide +kernel
theorem dX1_distribute_89 : decode cX1_distribute 89 = .ok (.istore 8, 2) := by decide +kernel
theorem dX1_distribute_91 : decode cX1_distribute 91 = .ok (.iload 7, 2) := by decide +kernel
theorem dX1_distribute_93 : decode cX1_distribute 93 = .ok (.ifCond .eq 37, 3) := by decide +kernel
theorem dX1_distribute_96 : decode cX1_distribute 96 = .ok (.iload 8, 2) := by decide +kernel
theorem dX1_distribute_98 : decode cX1_distribute 98 = .ok (.iload 6, 2) := by decide +kernel
theorem dX1_distribute_100 : decode cX1_distribute 100 = .ok (.if_icmp .ge 30, 3) := by decide +kernel
theorem dX1_distribute_103 : decode cX1_distribute 103 = .ok (.aload_n 0, 1) := by decide +kernel
theorem dX1_distribute_104 : decode cX1_distribute 104 = .ok (.aload_n 0, 1) := by decide +kernel
theorem dX1_distribute_105 : decode cX1_distribute 105 = .ok (.getfield 53, 3) := by decide +kernel
theorem dX1_distribute_108 : decode cX1_distribute 108 = .ok (.iload 9, 2) := by decide +kernel
theorem dX1_distribute_110 : decode cX1_distribute 110 = .ok (.iaload, 1) := by decide +kernel
theorem dX1_distribute_111 : decode cX1_distribute 111 = .ok (.aload_n 0, 1) := by decide +kernel
theorem dX1_distribute_112 : decode cX1_distribute 112 = .ok (.getfield 53, 3) := by decide +kernel
theorem dX1_distribute_115 : decode cX1_distribute 115 = .ok (.iload 8, 2) := by decide +kernel
theorem dX1_distribute_117 : decode cX1_distribute 117 = .ok (.iaload, 1) := by decide +kernel
theorem dX1_distribute_118 : decode cX1_distribute 118 = .ok (.invokevirtual 163, 3) := by decide +kernel
theorem dX1_distribute_121 : decode cX1_distribute 121 = .ok (.ifCond .ne 9, 3) := by decide +kernel
theorem dX1_distribute_124 : decode cX1_distribute 124 = .ok (.iinc 8 1, 3) := by decide +kernel
theorem dX1_distribute_127 : decode cX1_distribute 127 = .ok (.goto (-36), 3) := by decide +kernel
theorem dX1_distribute_130 : decode cX1_distribute 130 = .ok (.aload_n 0, 1) := by decide +kernel
theorem dX1_distribute_131 : decode cX1_distribute 131 = .ok (.iload 9, 2) := by decide +kernel
theorem dX1_distribute_133 : decode cX1_distribute 133 = .ok (.iload 8, 2) := by decide +kernel
theorem dX1_distribute_135 : decode cX1_distribute 135 = .ok (.lload 4, 2) := by decide +kernel
theorem dX1_distribute_137 : decode cX1_distribute 137 = .ok (.invokevirtual 213, 3) := by decide +kernel
theorem dX1_distribute_140 : decode cX1_distribute 140 = .ok (.lstore 4, 2) := by decide +kernel
theorem dX1_distribute_142 : decode cX1_distribute 142 = .ok (.iload 8, 2) := by decide +kernel
theorem dX1_distribute_144 : decode cX1_distribute 144 = .ok (.istore 9, 2) := by decide +kernel
theorem dX1_distribute_146 : decode cX1_distribute 146 = .ok (.goto (-75), 3) := by decide +kernel
theorem dX1_distribute_149 : decode cX1_distribute 149 = .ok (.aload_n 0, 1) := by decide +kernel
theorem dX1_distribute_150 : decode cX1_distribute 150 = .ok (.lload 4, 2) := by decide +kernel
theorem dX1_distribute_152 : decode cX1_distribute 152 = .ok (.putfield 62, 3) := by decide +kernel
theorem dX1_distribute_155 : decode cX1_distribute 155 = .ok (.return_, 1) := by decide +kernel
theorem dX1_share_0 : decode cX1_share 0 = .ok (.lconst 0, 1) := by decide +kernel
theorem dX1_share_1 : decode cX1_share 1 = .ok (.lstore 5, 2) := by decide +kernel
theorem dX1_share_3 : decode cX1_share 3 = .ok (.iload_n 1, 1) := by decide +kernel
theorem dX1_share_4 : decode cX1_share 4 = .ok (.istore 7, 2) := by decide +kernel
theorem dX1_share_6 : decode cX1_share 6 = .ok (.iload 7, 2) := by decide +kernel
theorem dX1_share_8 : decode cX1_share 8 = .ok (.iload_n 2, 1) := by decide +kernel
theorem dX1_share_9 : decode cX1_share 9 = .ok (.if_icmp .ge 39, 3) := by decide +kernel
theorem dX1_share_12 : decode cX1_share 12 = .ok (.lload 5, 2) := by decide +kernel
theorem dX1_share_14 : decode cX1_share 14 = .ok (.aload_n 0, 1) := by decide +kernel
theorem dX1_share_15 : decode cX1_share 15 = .ok (.getfield 32, 3) := by decide +kernel
theorem dX1_share_18 : decode cX1_share 18 = .ok (.aload_n 0, 1) := by decide +kernel
theorem dX1_share_19 : decode cX1_share 19 = .ok (.getfield 53, 3) := by decide +kernel
theorem dX1_share_22 : decode cX1_share 22 = .ok (.iload 7, 2) := by decide +kernel
theorem dX1_share_24 : decode cX1_share 24 = .ok (.iaload, 1) := by decide +kernel
theorem dX1_share_25 : decode cX1_share 25 = .ok (.laload, 1) := by decide +kernel
theorem dX1_share_26 : decode cX1_share 26 = .ok (.aload_n 0, 1) := by decide +kernel
theorem dX1_share_27 : decode cX1_share 27 = .ok (.getfield 36, 3) := by decide +kernel
theorem dX1_share_30 : decode cX1_share 30 = .ok (.aload_n 0, 1) := by decide +kernel
theorem dX1_share_31 : decode cX1_share 31 = .ok (.getfield 53, 3) := by decide +kernel
theorem dX1_share_34 : decode cX1_share 34 = .ok (.iload 7, 2) := by decide +kernel
theorem dX1_share_36 : decode cX1_share 36 = .ok (.iaload, 1) := by decide +kernel
theorem dX1_share_37 : decode cX1_share 37 = .ok (.laload, 1) := by decide +kernel
theorem dX1_share_38 : decode cX1_share 38 = .ok (.ladd, 1) := by decide +kernel
theorem dX1_share_39 : decode cX1_share 39 = .ok (.ladd, 1) := by decide +kernel
theorem dX1_share_40 : decode cX1_share 40 = .ok (.lstore 5, 2) := by decide +kernel
theorem dX1_share_42 : decode cX1_share 42 = .ok (.iinc 7 1, 3) := by decide +kernel
theorem dX1_share_45 : decode cX1_share 45 = .ok (.goto (-39), 3) := by decide +kernel
theorem dX1_share_48 : decode cX1_share 48 = .ok (.lload_n 3, 1) := by decide +kernel
theorem dX1_share_49 : decode cX1_share 49 = .ok (.lstore 7, 2) := by decide +kernel
theorem dX1_share_51 : decode cX1_share 51 = .ok (.lload 5, 2) := by decide +kernel
theorem dX1_share_53 : decode cX1_share 53 = .ok (.lconst 0, 1) := by decide +kernel
theorem dX1_share_54 : decode cX1_share 54 = .ok (.lcmp, 1) := by decide +kernel
theorem dX1_share_55 : decode cX1_share 55 = .ok (.ifCond .le 71, 3) := by decide +kernel
theorem dX1_share_58 : decode cX1_share 58 = .ok (.lload 5, 2) := by decide +kernel
theorem dX1_share_60 : decode cX1_share 60 = .ok (.lload_n 3, 1) := by decide +kernel
theorem dX1_share_61 : decode cX1_share 61 = .ok (.lcmp, 1) := by decide +kernel
theorem dX1_share_62 : decode cX1_share 62 = .ok (.ifCond .le 64, 3) := by decide +kernel
theorem dX1_share_65 : decode cX1_share 65 = .ok (.iload_n 1, 1) := by decide +kernel
theorem dX1_share_66 : decode cX1_share 66 = .ok (.istore 9, 2) := by decide +kernel
theorem dX1_share_68 : decode cX1_share 68 = .ok (.iload 9, 2) := by decide +kernel
theorem dX1_share_70 : decode cX1_share 70 = .ok (.iload_n 2, 1) := by decide +kernel
theorem dX1_share_71 : decode cX1_share 71 = .ok (.if_icmp .ge 55, 3) := by decide +kernel
theorem dX1_share_74 : decode cX1_share 74 = .ok (.lload 7, 2) := by decide +kernel
theorem dX1_share_76 : decode cX1_share 76 = .ok (.aload_n 0, 1) := by decide +kernel
theorem dX1_share_77 : decode cX1_share 77 = .ok (.aload_n 0, 1) := by decide +kernel
theorem dX1_share_78 : decode cX1_share 78 = .ok (.getfield 53, 3) := by decide +kernel
theorem dX1_share_81 : decode cX1_share 81 = .ok (.iload 9, 2) := by decide +kernel
theorem dX1_share_83 : decode cX1_share 83 = .ok (.iaload, 1) := by decide +kernel
theorem dX1_share_84 : decode cX1_share 84 = .ok (.lload_n 3, 1) := by decide +kernel
theorem dX1_share_85 : decode cX1_share 85 = .ok (.aload_n 0, 1) := by decide +kernel
theorem dX1_share_86 : decode cX1_share 86 = .ok (.getfield 32, 3) := by decide +kernel
theorem dX1_share_89 : decode cX1_share 89 = .ok (.aload_n 0, 1) := by decide +kernel
theorem dX1_share_90 : decode cX1_share 90 = .ok (.getfield 53, 3) := by decide +kernel
theorem dX1_share_93 : decode cX1_share 93 = .ok (.iload 9, 2) := by decide +kernel
theorem dX1_share_95 : decode cX1_share 95 = .ok (.iaload, 1) := by decide +kernel
theorem dX1_share_96 : decode cX1_share 96 = .ok (.laload, 1) := by decide +kernel
theorem dX1_share_97 : decode cX1_share 97 = .ok (.aload_n 0, 1) := by decide +kernel
theorem dX1_share_98 : decode cX1_share 98 = .ok (.getfield 36, 3) := by decide +kernel
theorem dX1_share_101 : decode cX1_share 101 = .ok (.aload_n 0, 1) := by decide +kernel
theorem dX1_share_102 : decode cX1_share 102 = .ok (.getfield 53, 3) := by decide +kernel
theorem dX1_share_105 : decode cX1_share 105 = .ok (.iload 9, 2) := by decide +kernel
theorem dX1_share_107 : decode cX1_share 107 = .ok (.iaload, 1) := by decide +kernel
theorem dX1_share_108 : decode cX1_share 108 = .ok (.laload, 1) := by decide +kernel
theorem dX1_share_109 : decode cX1_share 109 = .ok (.ladd, 1) := by decide +kernel
theorem dX1_share_110 : decode cX1_share 110 = .ok (.lmul, 1) := by decide +kernel
theorem dX1_share_111 : decode cX1_share 111 = .ok (.lload 5, 2) := by decide +kernel
theorem dX1_share_113 : decode cX1_share 113 = .ok (.ldiv, 1) := by decide +kernel
theorem dX1_share_114 : decode cX1_share 114 = .ok (.invokevirtual 205, 3) := by decide +kernel
theorem dX1_share_117 : decode cX1_share 117 = .ok (.lsub, 1) := by decide +kernel
theorem dX1_share_118 : decode cX1_share 118 = .ok (.lstore 7, 2) := by decide +kernel
theorem dX1_share_120 : decode cX1_share 120 = .ok (.iinc 9 1, 3) := by decide +kernel
theorem dX1_share_123 : decode cX1_share 123 = .ok (.goto (-55), 3) := by decide +kernel
theorem dX1_share_126 : decode cX1_share 126 = .ok (.iload_n 1, 1) := by decide +kernel
theorem dX1_share_127 : decode cX1_share 127 = .ok (.istore 9, 2) := by decide +kernel
theorem dX1_share_129 : decode cX1_share 129 = .ok (.iload 9, 2) := by decide +kernel
theorem dX1_share_131 : decode cX1_share 131 = .ok (.iload_n 2, 1) := by decide +kernel
theorem dX1_share_132 : decode cX1_share 132 = .ok (.if_icmp .ge 27, 3) := by decide +kernel
theorem dX1_share_135 : decode cX1_share 135 = .ok (.lload 7, 2) := by decide +kernel
theorem dX1_share_137 : decode cX1_share 137 = .ok (.aload_n 0, 1) := by decide +kernel
theorem dX1_share_138 : decode cX1_share 138 = .ok (.aload_n 0, 1) := by decide +kernel
theorem dX1_share_139 : decode cX1_share 139 = .ok (.getfield 53, 3) := by decide +kernel
theorem dX1_share_142 : decode cX1_share 142 = .ok (.iload 9, 2) := by decide +kernel
theorem dX1_share_144 : decode cX1_share 144 = .ok (.iaload, 1) := by decide +kernel
theorem dX1_share_145 : decode cX1_share 145 = .ok (.lload 7, 2) := by decide +kernel
theorem dX1_share_147 : decode cX1_share 147 = .ok (.invokevirtual 205, 3) := by decide +kernel
theorem dX1_share_150 : decode cX1_share 150 = .ok (.lsub, 1) := by decide +kernel
theorem dX1_share_151 : decode cX1_share 151 = .ok (.lstore 7, 2) := by decide +kernel
theorem dX1_share_153 : decode cX1_share 153 = .ok (.iinc 9 1, 3) := by decide +kernel
theorem dX1_share_156 : decode cX1_share 156 = .ok (.goto (-27), 3) := by decide +kernel
theorem dX1_share_159 : decode cX1_share 159 = .ok (.lload 7, 2) := by decide +kernel
theorem dX1_share_161 : decode cX1_share 161 = .ok (.lreturn, 1) := by decide +kernel
theorem dX1_give_0 : decode cX1_give 0 = .ok (.lload_n 2, 1) := by decide +kernel
theorem dX1_give_1 : decode cX1_give 1 = .ok (.aload_n 0, 1) := by decide +kernel
theorem dX1_give_2 : decode cX1_give 2 = .ok (.getfield 32, 3) := by decide +kernel
theorem dX1_give_5 : decode cX1_give 5 = .ok (.iload_n 1, 1) := by decide +kernel
theorem dX1_give_6 : decode cX1_give 6 = .ok (.laload, 1) := by decide +kernel
theorem dX1_give_7 : decode cX1_give 7 = .ok (.aload_n 0, 1) := by decide +kernel
theorem dX1_give_8 : decode cX1_give 8 = .ok (.getfield 36, 3) := by decide +kernel
theorem dX1_give_11 : decode cX1_give 11 = .ok (.iload_n 1, 1) := by decide +kernel
theorem dX1_give_12 : decode cX1_give 12 = .ok (.laload, 1) := by decide +kernel
theorem dX1_give_13 : decode cX1_give 13 = .ok (.ladd, 1) := by decide +kernel
theorem dX1_give_14 : decode cX1_give 14 = .ok (.invokestatic 217, 3) := by decide +kernel
theorem dX1_give_17 : decode cX1_give 17 = .ok (.lstore 4, 2) := by decide +kernel
theorem dX1_give_19 : decode cX1_give 19 = .ok (.lload 4, 2) := by decide +kernel
theorem dX1_give_21 : decode cX1_give 21 = .ok (.lconst 0, 1) := by decide +kernel
theorem dX1_give_22 : decode cX1_give 22 = .ok (.lcmp, 1) := by decide +kernel
theorem dX1_give_23 : decode cX1_give 23 = .ok (.ifCond .gt 5, 3) := by decide +kernel
theorem dX1_give_26 : decode cX1_give 26 = .ok (.lconst 0, 1) := by decide +kernel
theorem dX1_give_27 : decode cX1_give 27 = .ok (.lreturn, 1) := by decide +kernel
theorem dX1_give_28 : decode cX1_give 28 = .ok (.aload_n 0, 1) := by decide +kernel
theorem dX1_give_29 : decode cX1_give 29 = .ok (.getfield 21, 3) := by decide +kernel
theorem dX1_give_32 : decode cX1_give 32 = .ok (.bipush 115, 2) := by decide +kernel
theorem dX1_give_34 : decode cX1_give 34 = .ok (.invokevirtual 160, 3) := by decide +kernel
theorem dX1_give_37 : decode cX1_give 37 = .ok (.ifCond .eq 17, 3) := by decide +kernel
theorem dX1_give_40 : decode cX1_give 40 = .ok (.lload 4, 2) := by decide +kernel
theorem dX1_give_42 : decode cX1_give 42 = .ok (.aload_n 0, 1) := by decide +kernel
theorem dX1_give_43 : decode cX1_give 43 = .ok (.getfield 32, 3) := by decide +kernel
theorem dX1_give_46 : decode cX1_give 46 = .ok (.iload_n 1, 1) := by decide +kernel
theorem dX1_give_47 : decode cX1_give 47 = .ok (.laload, 1) := by decide +kernel
theorem dX1_give_48 : decode cX1_give 48 = .ok (.invokestatic 217, 3) := by decide +kernel
theorem dX1_give_51 : decode cX1_give 51 = .ok (.goto 17, 3) := by decide +kernel
theorem dX1_give_54 : decode cX1_give 54 = .ok (.lload 4, 2) := by decide +kernel
theorem dX1_give_56 : decode cX1_give 56 = .ok (.lload 4, 2) := by decide +kernel
theorem dX1_give_58 : decode cX1_give 58 = .ok (.aload_n 0, 1) := by decide +kernel
theorem dX1_give_59 : decode cX1_give 59 = .ok (.getfield 36, 3) := by decide +kernel
theorem dX1_give_62 : decode cX1_give 62 = .ok (.iload_n 1, 1) := by decide +kernel
theorem dX1_give_63 : decode cX1_give 63 = .ok (.laload, 1) := by decide +kernel
theorem dX1_give_64 : decode cX1_give 64 = .ok (.invokestatic 217, 3) := by decide +kernel
theorem dX1_give_67 : decode cX1_give 67 = .ok (.lsub, 1) := by decide +kernel
theorem dX1_give_68 : decode cX1_give 68 = .ok (.lstore 6, 2) := by decide +kernel
theorem dX1_give_70 : decode cX1_give 70 = .ok (.aload_n 0, 1) := by decide +kernel
theorem dX1_give_71 : decode cX1_give 71 = .ok (.getfield 32, 3) := by decide +kernel
theorem dX1_give_74 : decode cX1_give 74 = .ok (.iload_n 1, 1) := by decide +kernel
theorem dX1_give_75 : decode cX1_give 75 = .ok (.dup2, 1) := by decide +kernel
theorem dX1_give_76 : decode cX1_give 76 = .ok (.laload, 1) := by decide +kernel
theorem dX1_give_77 : decode cX1_give 77 = .ok (.lload 6, 2) := by decide +kernel
theorem dX1_give_79 : decode cX1_give 79 = .ok (.lsub, 1) := by decide +kernel
theorem dX1_give_80 : decode cX1_give 80 = .ok (.lastore, 1) := by decide +kernel
theorem dX1_give_81 : decode cX1_give 81 = .ok (.aload_n 0, 1) := by decide +kernel
theorem dX1_give_82 : decode cX1_give 82 = .ok (.getfield 36, 3) := by decide +kernel
theorem dX1_give_85 : decode cX1_give 85 = .ok (.iload_n 1, 1) := by decide +kernel
theorem dX1_give_86 : decode cX1_give 86 = .ok (.dup2, 1) := by decide +kernel
theorem dX1_give_87 : decode cX1_give 87 = .ok (.laload, 1) := by decide +kernel
theorem dX1_give_88 : decode cX1_give 88 = .ok (.lload 4, 2) := by decide +kernel
theorem dX1_give_90 : decode cX1_give 90 = .ok (.lload 6, 2) := by decide +kernel
theorem dX1_give_92 : decode cX1_give 92 = .ok (.lsub, 1) := by decide +kernel
theorem dX1_give_93 : decode cX1_give 93 = .ok (.lsub, 1) := by decide +kernel
theorem dX1_give_94 : decode cX1_give 94 = .ok (.lastore, 1) := by decide +kernel
theorem dX1_give_95 : decode cX1_give 95 = .ok (.aload_n 0, 1) := by decide +kernel
theorem dX1_give_96 : decode cX1_give 96 = .ok (.getfield 56, 3) := by decide +kernel
theorem dX1_give_99 : decode cX1_give 99 = .ok (.iload_n 1, 1) := by decide +kernel
theorem dX1_give_100 : decode cX1_give 100 = .ok (.dup2, 1) := by decide +kernel
theorem dX1_give_101 : decode cX1_give 101 = .ok (.laload, 1) := by decide +kernel
theorem dX1_give_102 : decode cX1_give 102 = .ok (.lload 6, 2) := by decide +kernel
theorem dX1_give_104 : decode cX1_give 104 = .ok (.ladd, 1) := by decide +kernel
theorem dX1_give_105 : decode cX1_give 105 = .ok (.lastore, 1) := by decide +kernel
theorem dX1_give_106 : decode cX1_give 106 = .ok (.aload_n 0, 1) := by decide +kernel
theorem dX1_give_107 : decode cX1_give 107 = .ok (.getfield 59, 3) := by decide +kernel
theorem dX1_give_110 : decode cX1_give 110 = .ok (.iload_n 1, 1) := by decide +kernel
theorem dX1_give_111 : decode cX1_give 111 = .ok (.dup2, 1) := by decide +kernel
theorem dX1_give_112 : decode cX1_give 112 = .ok (.laload, 1) := by decide +kernel
theorem dX1_give_113 : decode cX1_give 113 = .ok (.lload 4, 2) := by decide +kernel
theorem dX1_give_115 : decode cX1_give 115 = .ok (.lload 6, 2) := by decide +kernel
theorem dX1_give_117 : decode cX1_give 117 = .ok (.lsub, 1) := by decide +kernel
theorem dX1_give_118 : decode cX1_give 118 = .ok (.ladd, 1) := by decide +kernel
theorem dX1_give_119 : decode cX1_give 119 = .ok (.lastore, 1) := by decide +kernel
theorem dX1_give_120 : decode cX1_give 120 = .ok (.aload_n 0, 1) := by decide +kernel
theorem dX1_give_121 : decode cX1_give 121 = .ok (.getfield 39, 3) := by decide +kernel
theorem dX1_give_124 : decode cX1_give 124 = .ok (.iload_n 1, 1) := by decide +kernel
theorem dX1_give_125 : decode cX1_give 125 = .ok (.aload_n 0, 1) := by decide +kernel
theorem dX1_give_126 : decode cX1_give 126 = .ok (.getfield 25, 3) := by decide +kernel
theorem dX1_give_129 : decode cX1_give 129 = .ok (.iastore, 1) := by decide +kernel
theorem dX1_give_130 : decode cX1_give 130 = .ok (.aload_n 0, 1) := by decide +kernel
theorem dX1_give_131 : decode cX1_give 131 = .ok (.getfield 49, 3) := by decide +kernel
theorem dX1_give_134 : decode cX1_give 134 = .ok (.iload_n 1, 1) := by decide +kernel
theorem dX1_give_135 : decode cX1_give 135 = .ok (.baload, 1) := by decide +kernel
theorem dX1_give_136 : decode cX1_give 136 = .ok (.ifCond .eq 23, 3) := by decide +kernel
theorem dX1_give_139 : decode cX1_give 139 = .ok (.aload_n 0, 1) := by decide +kernel
theorem dX1_give_140 : decode cX1_give 140 = .ok (.getfield 46, 3) := by decide +kernel
theorem dX1_give_143 : decode cX1_give 143 = .ok (.iload_n 1, 1) := by decide +kernel
theorem dX1_give_144 : decode cX1_give 144 = .ok (.iaload, 1) := by decide +kernel
theorem dX1_give_145 : decode cX1_give 145 = .ok (.iconst (-1), 1) := by decide +kernel
theorem dX1_give_146 : decode cX1_give 146 = .ok (.if_icmp .ne 13, 3) := by decide +kernel
theorem dX1_give_149 : decode cX1_give 149 = .ok (.aload_n 0, 1) := by decide +kernel
theorem dX1_give_150 : decode cX1_give 150 = .ok (.getfield 46, 3) := by decide +kernel
theorem dX1_give_153 : decode cX1_give 153 = .ok (.iload_n 1, 1) := by decide +kernel
theorem dX1_give_154 : decode cX1_give 154 = .ok (.aload_n 0, 1) := by decide +kernel
theorem dX1_give_155 : decode cX1_give 155 = .ok (.getfield 25, 3) := by decide +kernel
theorem dX1_give_158 : decode cX1_give 158 = .ok (.iastore, 1) := by decide +kernel
theorem dX1_give_159 : decode cX1_give 159 = .ok (.aload_n 0, 1) := by decide +kernel
theorem dX1_give_160 : decode cX1_give 160 = .ok (.getfield 32, 3) := by decide +kernel
theorem dX1_give_163 : decode cX1_give 163 = .ok (.iload_n 1, 1) := by decide +kernel
theorem dX1_give_164 : decode cX1_give 164 = .ok (.laload, 1) := by decide +kernel
theorem dX1_give_165 : decode cX1_give 165 = .ok (.aload_n 0, 1) := by decide +kernel
theorem dX1_give_166 : decode cX1_give 166 = .ok (.getfield 36, 3) := by decide +kernel
theorem dX1_give_169 : decode cX1_give 169 = .ok (.iload_n 1, 1) := by decide +kernel
theorem dX1_give_170 : decode cX1_give 170 = .ok (.laload, 1) := by decide +kernel
theorem dX1_give_171 : decode cX1_give 171 = .ok (.ladd, 1) := by decide +kernel
theorem dX1_give_172 : decode cX1_give 172 = .ok (.lconst 0, 1) := by decide +kernel
theorem dX1_give_173 : decode cX1_give 173 = .ok (.lcmp, 1) := by decide +kernel
theorem dX1_give_174 : decode cX1_give 174 = .ok (.ifCond .ne 13, 3) := by decide +kernel
theorem dX1_give_177 : decode cX1_give 177 = .ok (.aload_n 0, 1) := by decide +kernel
theorem dX1_give_178 : decode cX1_give 178 = .ok (.getfield 43, 3) := by decide +kernel
theorem dX1_give_181 : decode cX1_give 181 = .ok (.iload_n 1, 1) := by decide +kernel
theorem dX1_give_182 : decode cX1_give 182 = .ok (.aload_n 0, 1) := by decide +kernel
theorem dX1_give_183 : decode cX1_give 183 = .ok (.getfield 25, 3) := by decide +kernel
theorem dX1_give_186 : decode cX1_give 186 = .ok (.iastore, 1) := by decide +kernel
theorem dX1_give_187 : decode cX1_give 187 = .ok (.lload 4, 2) := by decide +kernel
theorem dX1_give_189 : decode cX1_give 189 = .ok (.lreturn, 1) := by decide +kernel
theorem dX2_init_0 : decode cX2_init 0 = .ok (.aload_n 0, 1) := by decide +kernel
theorem dX2_init_1 : decode cX2_init 1 = .ok (.invokespecial 3, 3) := by decide +kernel
theorem dX2_init_4 : decode cX2_init 4 = .ok (.aload_n 0, 1) := by decide +kernel
theorem dX2_init_5 : decode cX2_init 5 = .ok (.bipush 6, 2) := by decide +kernel
theorem dX2_init_7 : decode cX2_init 7 = .ok (.newarray .int, 2) := by decide +kernel
theorem dX2_init_9 : decode cX2_init 9 = .ok (.putfield 9, 3) := by decide +kernel
theorem dX2_init_12 : decode cX2_init 12 = .ok (.return_, 1) := by decide +kernel
theorem dX2_begin_0 : decode cX2_begin 0 = .ok (.aload_n 0, 1) := by decide +kernel
theorem dX2_begin_1 : decode cX2_begin 1 = .ok (.iload_n 1, 1) := by decide +kernel
theorem dX2_begin_2 : decode cX2_begin 2 = .ok (.putfield 15, 3) := by decide +kernel
theorem dX2_begin_5 : decode cX2_begin 5 = .ok (.aload_n 0, 1) := by decide +kernel
theorem dX2_begin_6 : decode cX2_begin 6 = .ok (.iload_n 2, 1) := by decide +kernel
theorem dX2_begin_7 : decode cX2_begin 7 = .ok (.putfield 19, 3) := by decide +kernel
theorem dX2_begin_10 : decode cX2_begin 10 = .ok (.aload_n 0, 1) := by decide +kernel
theorem dX2_begin_11 : decode cX2_begin 11 = .ok (.getfield 9, 3) := by decide +kernel
theorem dX2_begin_14 : decode cX2_begin 14 = .ok (.iconst 0, 1) := by decide +kernel
theorem dX2_begin_15 : decode cX2_begin 15 = .ok (.iconst 0, 1) := by decide +kernel
theorem dX2_begin_16 : decode cX2_begin 16 = .ok (.iastore, 1) := by decide +kernel
theorem dX2_begin_17 : decode cX2_begin 17 = .ok (.aload_n 0, 1) := by decide +kernel
theorem dX2_begin_18 : decode cX2_begin 18 = .ok (.getfield 9, 3) := by decide +kernel
theorem dX2_begin_21 : decode cX2_begin 21 = .ok (.iconst 1, 1) := by decide +kernel
theorem dX2_begin_22 : decode cX2_begin 22 = .ok (.iconst (-1), 1) := by decide +kernel
theorem dX2_begin_23 : decode cX2_begin 23 = .ok (.iastore, 1) := by decide +kernel
theorem dX2_begin_24 : decode cX2_begin 24 = .ok (.aload_n 0, 1) := by decide +kernel
theorem dX2_begin_25 : decode cX2_begin 25 = .ok (.getfield 9, 3) := by decide +kernel
theorem dX2_begin_28 : decode cX2_begin 28 = .ok (.iconst 2, 1) := by decide +kernel
theorem dX2_begin_29 : decode cX2_begin 29 = .ok (.iconst 0, 1) := by decide +kernel
theorem dX2_begin_30 : decode cX2_begin 30 = .ok (.iastore, 1) := by decide +kernel
theorem dX2_begin_31 : decode cX2_begin 31 = .ok (.aload_n 0, 1) := by decide +kernel
theorem dX2_begin_32 : decode cX2_begin 32 = .ok (.getfield 9, 3) := by decide +kernel
theorem dX2_begin_35 : decode cX2_begin 35 = .ok (.iconst 3, 1) := by decide +kernel
theorem dX2_begin_36 : decode cX2_begin 36 = .ok (.iconst 0, 1) := by decide +kernel
theorem dX2_begin_37 : decode cX2_begin 37 = .ok (.iastore, 1) := by decide +kernel
theorem dX2_begin_38 : decode cX2_begin 38 = .ok (.aload_n 0, 1) := by decide +kernel
theorem dX2_begin_39 : decode cX2_begin 39 = .ok (.getfield 9, 3) := by decide +kernel
theorem dX2_begin_42 : decode cX2_begin 42 = .ok (.iconst 4, 1) := by decide +kernel
theorem dX2_begin_43 : decode cX2_begin 43 = .ok (.iload 4, 2) := by decide +kernel
theorem dX2_begin_45 : decode cX2_begin 45 = .ok (.iastore, 1) := by decide +kernel
theorem dX2_begin_46 : decode cX2_begin 46 = .ok (.aload_n 0, 1) := by decide +kernel
theorem dX2_begin_47 : decode cX2_begin 47 = .ok (.getfield 9, 3) := by decide +kernel
theorem dX2_begin_50 : decode cX2_begin 50 = .ok (.iconst 5, 1) := by decide +kernel
theorem dX2_begin_51 : decode cX2_begin 51 = .ok (.iload_n 3, 1) := by decide +kernel
theorem dX2_begin_52 : decode cX2_begin 52 = .ok (.iastore, 1) := by decide +kernel
theorem dX2_begin_53 : decode cX2_begin 53 = .ok (.return_, 1) := by decide +kernel
theorem dX2_isSecured_0 : decode cX2_isSecured 0 = .ok (.aload_n 0, 1) := by decide +kernel
theorem dX2_isSecured_1 : decode cX2_isSecured 1 = .ok (.getfield 9, 3) := by decide +kernel
theorem dX2_isSecured_4 : decode cX2_isSecured 4 = .ok (.iconst 1, 1) := by decide +kernel
theorem dX2_isSecured_5 : decode cX2_isSecured 5 = .ok (.iaload, 1) := by decide +kernel
theorem dX2_isSecured_6 : decode cX2_isSecured 6 = .ok (.ifCond .ge 13, 3) := by decide +kernel
theorem dX2_isSecured_9 : decode cX2_isSecured 9 = .ok (.aload_n 0, 1) := by decide +kernel
theorem dX2_isSecured_10 : decode cX2_isSecured 10 = .ok (.getfield 9, 3) := by decide +kernel
theorem dX2_isSecured_13 : decode cX2_isSecured 13 = .ok (.iconst 2, 1) := by decide +kernel
theorem dX2_isSecured_14 : decode cX2_isSecured 14 = .ok (.iaload, 1) := by decide +kernel
theorem dX2_isSecured_15 : decode cX2_isSecured 15 = .ok (.iconst 1, 1) := by decide +kernel
theorem dX2_isSecured_16 : decode cX2_isSecured 16 = .ok (.if_icmp .ne 7, 3) := by decide +kernel
theorem dX2_isSecured_19 : decode cX2_isSecured 19 = .ok (.iconst 1, 1) := by decide +kernel
theorem dX2_isSecured_20 : decode cX2_isSecured 20 = .ok (.goto 4, 3) := by decide +kernel
theorem dX2_isSecured_23 : decode cX2_isSecured 23 = .ok (.iconst 0, 1) := by decide +kernel
theorem dX2_isSecured_24 : decode cX2_isSecured 24 = .ok (.ireturn, 1) := by decide +kernel
theorem dX2_copyFrom_0 : decode cX2_copyFrom 0 = .ok (.aload_n 0, 1) := by decide +kernel
theorem dX2_copyFrom_1 : decode cX2_copyFrom 1 = .ok (.aload_n 1, 1) := by decide +kernel
theorem dX2_copyFrom_2 : decode cX2_copyFrom 2 = .ok (.getfield 15, 3) := by decide +kernel
theorem dX2_copyFrom_5 : decode cX2_copyFrom 5 = .ok (.putfield 15, 3) := by decide +kernel
theorem dX2_copyFrom_8 : decode cX2_copyFrom 8 = .ok (.aload_n 0, 1) := by decide +kernel
theorem dX2_copyFrom_9 : decode cX2_copyFrom 9 = .ok (.aload_n 1, 1) := by decide +kernel
theorem dX2_copyFrom_10 : decode cX2_copyFrom 10 = .ok (.getfield 19, 3) := by decide +kernel
theorem dX2_copyFrom_13 : decode cX2_copyFrom 13 = .ok (.putfield 19, 3) := by decide +kernel
theorem dX2_copyFrom_16 : decode cX2_copyFrom 16 = .ok (.aload_n 1, 1) := by decide +kernel
theorem dX2_copyFrom_17 : decode cX2_copyFrom 17 = .ok (.getfield 9, 3) := by decide +kernel
theorem dX2_copyFrom_20 : decode cX2_copyFrom 20 = .ok (.iconst 0, 1) := by decide +kernel
theorem dX2_copyFrom_21 : decode cX2_copyFrom 21 = .ok (.aload_n 0, 1) := by decide +kernel
theorem dX2_copyFrom_22 : decode cX2_copyFrom 22 = .ok (.getfield 9, 3) := by decide +kernel
theorem dX2_copyFrom_25 : decode cX2_copyFrom 25 = .ok (.iconst 0, 1) := by decide +kernel
theorem dX2_copyFrom_26 : decode cX2_copyFrom 26 = .ok (.bipush 6, 2) := by decide +kernel
theorem dX2_copyFrom_28 : decode cX2_copyFrom 28 = .ok (.invokestatic 22, 3) := by decide +kernel
theorem dX2_copyFrom_31 : decode cX2_copyFrom 31 = .ok (.return_, 1) := by decide +kernel
theorem dX3_init_0 : decode cX3_init 0 = .ok (.aload_n 0, 1) := by decide +kernel
theorem dX3_init_1 : decode cX3_init 1 = .ok (.invokespecial 3, 3) := by decide +kernel
theorem dX3_init_4 : decode cX3_init 4 = .ok (.aload_n 0, 1) := by decide +kernel
theorem dX3_init_5 : decode cX3_init 5 = .ok (.bipush 10, 2) := by decide +kernel
theorem dX3_init_7 : decode cX3_init 7 = .ok (.newarray .int, 2) := by decide +kernel
theorem dX3_init_9 : decode cX3_init 9 = .ok (.putfield 9, 3) := by decide +kernel
theorem dX3_init_12 : decode cX3_init 12 = .ok (.aload_n 0, 1) := by decide +kernel
theorem dX3_init_13 : decode cX3_init 13 = .ok (.iconst 0, 1) := by decide +kernel
theorem dX3_init_14 : decode cX3_init 14 = .ok (.putfield 15, 3) := by decide +kernel
theorem dX3_init_17 : decode cX3_init 17 = .ok (.aload_n 0, 1) := by decide +kernel
theorem dX3_init_18 : decode cX3_init 18 = .ok (.iconst 0, 1) := by decide +kernel
theorem dX3_init_19 : decode cX3_init 19 = .ok (.putfield 19, 3) := by decide +kernel
theorem dX3_init_22 : decode cX3_init 22 = .ok (.return_, 1) := by decide +kernel
theorem dX3_has_0 : decode cX3_has 0 = .ok (.aload_n 0, 1) := by decide +kernel
theorem dX3_has_1 : decode cX3_has 1 = .ok (.getfield 19, 3) := by decide +kernel
theorem dX3_has_4 : decode cX3_has 4 = .ok (.iload_n 1, 1) := by decide +kernel
theorem dX3_has_5 : decode cX3_has 5 = .ok (.bipush 97, 2) := by decide +kernel
theorem dX3_has_7 : decode cX3_has 7 = .ok (.isub, 1) := by decide +kernel
theorem dX3_has_8 : decode cX3_has 8 = .ok (.ishr, 1) := by decide +kernel
theorem dX3_has_9 : decode cX3_has 9 = .ok (.iconst 1, 1) := by decide +kernel
theorem dX3_has_10 : decode cX3_has 10 = .ok (.iand, 1) := by decide +kernel
theorem dX3_has_11 : decode cX3_has 11 = .ok (.ifCond .eq 7, 3) := by decide +kernel
theorem dX3_has_14 : decode cX3_has 14 = .ok (.iconst 1, 1) := by decide +kernel
theorem dX3_has_15 : decode cX3_has 15 = .ok (.goto 4, 3) := by decide +kernel
theorem dX3_has_18 : decode cX3_has 18 = .ok (.iconst 0, 1) := by decide +kernel
theorem dX3_has_19 : decode cX3_has 19 = .ok (.ireturn, 1) := by decide +kernel
theorem dX3_read_0 : decode cX3_read 0 = .ok (.aload_n 0, 1) := by decide +kernel
theorem dX3_read_1 : decode cX3_read 1 = .ok (.iconst 0, 1) := by decide +kernel
theorem dX3_read_2 : decode cX3_read 2 = .ok (.putfield 15, 3) := by decide +kernel
theorem dX3_read_5 : decode cX3_read 5 = .ok (.aload_n 0, 1) := by decide +kernel
theorem dX3_read_6 : decode cX3_read 6 = .ok (.iconst 0, 1) := by decide +kernel
theorem dX3_read_7 : decode cX3_read 7 = .ok (.putfield 19, 3) := by decide +kernel
theorem dX3_read_10 : decode cX3_read 10 = .ok (.iconst 0, 1) := by decide +kernel
theorem dX3_read_11 : decode cX3_read 11 = .ok (.istore_n 2, 1) := by decide +kernel
theorem dX3_read_12 : decode cX3_read 12 = .ok (.iload_n 2, 1) := by decide +kernel
theorem dX3_read_13 : decode cX3_read 13 = .ok (.aload_n 1, 1) := by decide +kernel
theorem dX3_read_14 : decode cX3_read 14 = .ok (.getfield 22, 3) := by decide +kernel
theorem dX3_read_17 : decode cX3_read 17 = .ok (.if_icmp .ge 72, 3) := by decide +kernel
theorem dX3_read_20 : decode cX3_read 20 = .ok (.aload_n 0, 1) := by decide +kernel
theorem dX3_read_21 : decode cX3_read 21 = .ok (.getfield 15, 3) := by decide +kernel
theorem dX3_read_24 : decode cX3_read 24 = .ok (.bipush 10, 2) := by decide +kernel
theorem dX3_read_26 : decode cX3_read 26 = .ok (.if_icmp .ge 63, 3) := by decide +kernel
theorem dX3_read_29 : decode cX3_read 29 = .ok (.aload_n 1, 1) := by decide +kernel
theorem dX3_read_30 : decode cX3_read 30 = .ok (.getfield 25, 3) := by decide +kernel
theorem dX3_read_33 : decode cX3_read 33 = .ok (.iload_n 2, 1) := by decide +kernel
theorem dX3_read_34 : decode cX3_read 34 = .ok (.iaload, 1) := by decide +kernel
theorem dX3_read_35 : decode cX3_read 35 = .ok (.bipush 32, 2) := by decide +kernel
theorem dX3_read_37 : decode cX3_read 37 = .ok (.if_icmp .eq 46, 3) := by decide +kernel
theorem dX3_read_40 : decode cX3_read 40 = .ok (.aload_n 0, 1) := by decide +kernel
theorem dX3_read_41 : decode cX3_read 41 = .ok (.getfield 9, 3) := by decide +kernel
theorem dX3_read_44 : decode cX3_read 44 = .ok (.aload_n 0, 1) := by decide +kernel
theorem dX3_read_45 : decode cX3_read 45 = .ok (.getfield 15, 3) := by decide +kernel
theorem dX3_read_48 : decode cX3_read 48 = .ok (.aload_n 1, 1) := by decide +kernel
theorem dX3_read_49 : decode cX3_read 49 = .ok (.getfield 25, 3) := by decide +kernel
theorem dX3_read_52 : decode cX3_read 52 = .ok (.iload_n 2, 1) := by decide +kernel
theorem dX3_read_53 : decode cX3_read 53 = .ok (.iaload, 1) := by decide +kernel
theorem dX3_read_54 : decode cX3_read 54 = .ok (.iastore, 1) := by decide +kernel
theorem dX3_read_55 : decode cX3_read 55 = .ok (.aload_n 0, 1) := by decide +kernel
theorem dX3_read_56 : decode cX3_read 56 = .ok (.dup, 1) := by decide +kernel
theorem dX3_read_57 : decode cX3_read 57 = .ok (.getfield 15, 3) := by decide +kernel
theorem dX3_read_60 : decode cX3_read 60 = .ok (.iconst 1, 1) := by decide +kernel
theorem dX3_read_61 : decode cX3_read 61 = .ok (.iadd, 1) := by decide +kernel
theorem dX3_read_62 : decode cX3_read 62 = .ok (.putfield 15, 3) := by decide +kernel
theorem dX3_read_65 : decode cX3_read 65 = .ok (.aload_n 0, 1) := by decide +kernel
theorem dX3_read_66 : decode cX3_read 66 = .ok (.dup, 1) := by decide +kernel
theorem dX3_read_67 : decode cX3_read 67 = .ok (.getfield 19, 3) := by decide +kernel
theorem dX3_read_70 : decode cX3_read 70 = .ok (.aload_n 1, 1) := by decide +kernel
theorem dX3_read_71 : decode cX3_read 71 = .ok (.getfield 25, 3) := by decide +kernel
theorem dX3_read_74 : decode cX3_read 74 = .ok (.iload_n 2, 1) := by decide +kernel
theorem dX3_read_75 : decode cX3_read 75 = .ok (.iaload, 1) := by decide +kernel
theorem dX3_read_76 : decode cX3_read 76 = .ok (.invokestatic 28, 3) := by decide +kernel
theorem dX3_read_79 : decode cX3_read 79 = .ok (.ior, 1) := by decide +kernel
theorem dX3_read_80 : decode cX3_read 80 = .ok (.putfield 19, 3) := by decide +kernel
theorem dX3_read_83 : decode cX3_read 83 = .ok (.iinc 2 1, 3) := by decide +kernel
theorem dX3_read_86 : decode cX3_read 86 = .ok (.goto (-74), 3) := by decide +kernel
theorem dX3_read_89 : decode cX3_read 89 = .ok (.return_, 1) := by decide +kernel
theorem dX3_copyFrom_0 : decode cX3_copyFrom 0 = .ok (.aload_n 1, 1) := by decide +kernel
theorem dX3_copyFrom_1 : decode cX3_copyFrom 1 = .ok (.getfield 9, 3) := by decide +kernel
theorem dX3_copyFrom_4 : decode cX3_copyFrom 4 = .ok (.iconst 0, 1) := by decide +kernel
theorem dX3_copyFrom_5 : decode cX3_copyFrom 5 = .ok (.aload_n 0, 1) := by decide +kernel
theorem dX3_copyFrom_6 : decode cX3_copyFrom 6 = .ok (.getfield 9, 3) := by decide +kernel
theorem dX3_copyFrom_9 : decode cX3_copyFrom 9 = .ok (.iconst 0, 1) := by decide +kernel
theorem dX3_copyFrom_10 : decode cX3_copyFrom 10 = .ok (.bipush 10, 2) := by decide +kernel
theorem dX3_copyFrom_12 : decode cX3_copyFrom 12 = .ok (.invokestatic 32, 3) := by decide +kernel
theorem dX3_copyFrom_15 : decode cX3_copyFrom 15 = .ok (.aload_n 0, 1) := by decide +kernel
theorem dX3_copyFrom_16 : decode cX3_copyFrom 16 = .ok (.aload_n 1, 1) := by decide +kernel
theorem dX3_copyFrom_17 : decode cX3_copyFrom 17 = .ok (.getfield 15, 3) := by decide +kernel
theorem dX3_copyFrom_20 : decode cX3_copyFrom 20 = .ok (.putfield 15, 3) := by decide +kernel
theorem dX3_copyFrom_23 : decode cX3_copyFrom 23 = .ok (.aload_n 0, 1) := by decide +kernel
theorem dX3_copyFrom_24 : decode cX3_copyFrom 24 = .ok (.aload_n 1, 1) := by decide +kernel
theorem dX3_copyFrom_25 : decode cX3_copyFrom 25 = .ok (.getfield 19, 3) := by decide +kernel
theorem dX3_copyFrom_28 : decode cX3_copyFrom 28 = .ok (.putfield 19, 3) := by decide +kernel
theorem dX3_copyFrom_31 : decode cX3_copyFrom 31 = .ok (.return_, 1) := by decide +kernel
theorem dX3_bitOf_0 : decode cX3_bitOf 0 = .ok (.iconst 1, 1) := by decide +kernel
theorem dX3_bitOf_1 : decode cX3_bitOf 1 = .ok (.iload_n 0, 1) := by decide +kernel
theorem dX3_bitOf_2 : decode cX3_bitOf 2 = .ok (.bipush 97, 2) := by decide +kernel
theorem dX3_bitOf_4 : decode cX3_bitOf 4 = .ok (.isub, 1) := by decide +kernel
theorem dX3_bitOf_5 : decode cX3_bitOf 5 = .ok (.ishl, 1) := by decide +kernel
theorem dX3_bitOf_6 : decode cX3_bitOf 6 = .ok (.ireturn, 1) := by decide +kernel
theorem dX4_init_0 : decode cX4_init 0 = .ok (.aload_n 0, 1) := by decide +kernel
theorem dX4_init_1 : decode cX4_init 1 = .ok (.invokespecial 3, 3) := by decide +kernel
theorem dX4_init_4 : decode cX4_init 4 = .ok (.aload_n 0, 1) := by decide +kernel
theorem dX4_init_5 : decode cX4_init 5 = .ok (.iconst (-1), 1) := by decide +kernel
theorem dX4_init_6 : decode cX4_init 6 = .ok (.putfield 9, 3) := by decide +kernel
theorem dX4_init_9 : decode cX4_init 9 = .ok (.aload_n 0, 1) := by decide +kernel
theorem dX4_init_10 : decode cX4_init 10 = .ok (.iconst (-1), 1) := by decide +kernel
theorem dX4_init_11 : decode cX4_init 11 = .ok (.putfield 15, 3) := by decide +kernel
theorem dX4_init_14 : decode cX4_init 14 = .ok (.return_, 1) := by decide +kernel
theorem dX4_copyFrom_0 : decode cX4_copyFrom 0 = .ok (.aload_n 0, 1) := by decide +kernel
theorem dX4_copyFrom_1 : decode cX4_copyFrom 1 = .ok (.aload_n 1, 1) := by decide +kernel
theorem dX4_copyFrom_2 : decode cX4_copyFrom 2 = .ok (.getfield 18, 3) := by decide +kernel
theorem dX4_copyFrom_5 : decode cX4_copyFrom 5 = .ok (.putfield 18, 3) := by decide +kernel
theorem dX4_copyFrom_8 : decode cX4_copyFrom 8 = .ok (.aload_n 0, 1) := by decide +kernel
theorem dX4_copyFrom_9 : decode cX4_copyFrom 9 = .ok (.aload_n 1, 1) := by decide +kernel
theorem dX4_copyFrom_10 : decode cX4_copyFrom 10 = .ok (.getfield 21, 3) := by decide +kernel
theorem dX4_copyFrom_13 : decode cX4_copyFrom 13 = .ok (.putfield 21, 3) := by decide +kernel
theorem dX4_copyFrom_16 : decode cX4_copyFrom 16 = .ok (.aload_n 0, 1) := by decide +kernel
theorem dX4_copyFrom_17 : decode cX4_copyFrom 17 = .ok (.aload_n 1, 1) := by decide +kernel
theorem dX4_copyFrom_18 : decode cX4_copyFrom 18 = .ok (.getfield 9, 3) := by decide +kernel
theorem dX4_copyFrom_21 : decode cX4_copyFrom 21 = .ok (.putfield 9, 3) := by decide +kernel
theorem dX4_copyFrom_24 : decode cX4_copyFrom 24 = .ok (.aload_n 0, 1) := by decide +kernel
theorem dX4_copyFrom_25 : decode cX4_copyFrom 25 = .ok (.aload_n 1, 1) := by decide +kernel
theorem dX4_copyFrom_26 : decode cX4_copyFrom 26 = .ok (.getfield 15, 3) := by decide +kernel
theorem dX4_copyFrom_29 : decode cX4_copyFrom 29 = .ok (.putfield 15, 3) := by decide +kernel
theorem dX4_copyFrom_32 : decode cX4_copyFrom 32 = .ok (.return_, 1) := by decide +kernel
theorem dX5_init_0 : decode cX5_init 0 = .ok (.aload_n 0, 1) := by decide +kernel
theorem dX5_init_1 : decode cX5_init 1 = .ok (.invokespecial 3, 3) := by decide +kernel
theorem dX5_init_4 : decode cX5_init 4 = .ok (.aload_n 0, 1) := by decide +kernel
theorem dX5_init_5 : decode cX5_init 5 = .ok (.iconst 0, 1) := by decide +kernel
theorem dX5_init_6 : decode cX5_init 6 = .ok (.putfield 9, 3) := by decide +kernel
theorem dX5_init_9 : decode cX5_init 9 = .ok (.aload_n 0, 1) := by decide +kernel
theorem dX5_init_10 : decode cX5_init 10 = .ok (.iconst 0, 1) := by decide +kernel
theorem dX5_init_11 : decode cX5_init 11 = .ok (.putfield 15, 3) := by decide +kernel
theorem dX5_init_14 : decode cX5_init 14 = .ok (.aload_n 0, 1) := by decide +kernel
theorem dX5_init_15 : decode cX5_init 15 = .ok (.bipush 24, 2) := by decide +kernel
theorem dX5_init_17 : decode cX5_init 17 = .ok (.newarray .int, 2) := by decide +kernel
theorem dX5_init_19 : decode cX5_init 19 = .ok (.putfield 19, 3) := by decide +kernel
theorem dX5_init_22 : decode cX5_init 22 = .ok (.aload_n 0, 1) := by decide +kernel
theorem dX5_init_23 : decode cX5_init 23 = .ok (.iconst 0, 1) := by decide +kernel
theorem dX5_init_24 : decode cX5_init 24 = .ok (.putfield 23, 3) := by decide +kernel
theorem dX5_init_27 : decode cX5_init 27 = .ok (.return_, 1) := by decide +kernel
theorem dX5_begin_0 : decode cX5_begin 0 = .ok (.aload_n 0, 1) := by decide +kernel
theorem dX5_begin_1 : decode cX5_begin 1 = .ok (.iconst 1, 1) := by decide +kernel
theorem dX5_begin_2 : decode cX5_begin 2 = .ok (.putfield 9, 3) := by decide +kernel
theorem dX5_begin_5 : decode cX5_begin 5 = .ok (.aload_n 0, 1) := by decide +kernel
theorem dX5_begin_6 : decode cX5_begin 6 = .ok (.iload_n 1, 1) := by decide +kernel
theorem dX5_begin_7 : decode cX5_begin 7 = .ok (.putfield 23, 3) := by decide +kernel
theorem dX5_begin_10 : decode cX5_begin 10 = .ok (.aload_n 0, 1) := by decide +kernel
theorem dX5_begin_11 : decode cX5_begin 11 = .ok (.iload_n 2, 1) := by decide +kernel
theorem dX5_begin_12 : decode cX5_begin 12 = .ok (.putfield 15, 3) := by decide +kernel
theorem dX5_begin_15 : decode cX5_begin 15 = .ok (.aload_n 0, 1) := by decide +kernel
theorem dX5_begin_16 : decode cX5_begin 16 = .ok (.getfield 19, 3) := by decide +kernel
theorem dX5_begin_19 : decode cX5_begin 19 = .ok (.iconst 0, 1) := by decide +kernel
theorem dX5_begin_20 : decode cX5_begin 20 = .ok (.invokestatic 26, 3) := by decide +kernel
theorem dX5_begin_23 : decode cX5_begin 23 = .ok (.return_, 1) := by decide +kernel
theorem dX5_refusal_0 : decode cX5_refusal 0 = .ok (.aload_n 0, 1) := by decide +kernel
theorem dX5_refusal_1 : decode cX5_refusal 1 = .ok (.getfield 9, 3) := by decide +kernel
theorem dX5_refusal_4 : decode cX5_refusal 4 = .ok (.ifCond .ne 6, 3) := by decide +kernel
theorem dX5_refusal_7 : decode cX5_refusal 7 = .ok (.bipush (-11), 2) := by decide +kernel
theorem dX5_refusal_9 : decode cX5_refusal 9 = .ok (.ireturn, 1) := by decide +kernel
theorem dX5_refusal_10 : decode cX5_refusal 10 = .ok (.iload_n 1, 1) := by decide +kernel
theorem dX5_refusal_11 : decode cX5_refusal 11 = .ok (.aload_n 0, 1) := by decide +kernel
theorem dX5_refusal_12 : decode cX5_refusal 12 = .ok (.getfield 23, 3) := by decide +kernel
theorem dX5_refusal_15 : decode cX5_refusal 15 = .ok (.if_icmp .eq 6, 3) := by decide +kernel
theorem dX5_refusal_18 : decode cX5_refusal 18 = .ok (.bipush (-12), 2) := by decide +kernel
theorem dX5_refusal_20 : decode cX5_refusal 20 = .ok (.ireturn, 1) := by decide +kernel
theorem dX5_refusal_21 : decode cX5_refusal 21 = .ok (.iload_n 2, 1) := by decide +kernel
theorem dX5_refusal_22 : decode cX5_refusal 22 = .ok (.ifCond .lt 13, 3) := by decide +kernel
theorem dX5_refusal_25 : decode cX5_refusal 25 = .ok (.iload_n 2, 1) := by decide +kernel
theorem dX5_refusal_26 : decode cX5_refusal 26 = .ok (.aload_n 0, 1) := by decide +kernel
theorem dX5_refusal_27 : decode cX5_refusal 27 = .ok (.getfield 15, 3) := by decide +kernel
theorem dX5_refusal_30 : decode cX5_refusal 30 = .ok (.iload_n 3, 1) := by decide +kernel
theorem dX5_refusal_31 : decode cX5_refusal 31 = .ok (.isub, 1) := by decide +kernel
theorem dX5_refusal_32 : decode cX5_refusal 32 = .ok (.if_icmp .le 8, 3) := by decide +kernel
theorem dX5_refusal_35 : decode cX5_refusal 35 = .ok (.bipush (-13), 2) := by decide +kernel
theorem dX5_refusal_37 : decode cX5_refusal 37 = .ok (.goto 4, 3) := by decide +kernel
theorem dX5_refusal_40 : decode cX5_refusal 40 = .ok (.iconst 0, 1) := by decide +kernel
theorem dX5_refusal_41 : decode cX5_refusal 41 = .ok (.ireturn, 1) := by decide +kernel
theorem dX5_write_0 : decode cX5_write 0 = .ok (.aload_n 0, 1) := by decide +kernel
theorem dX5_write_1 : decode cX5_write 1 = .ok (.getfield 19, 3) := by decide +kernel
theorem dX5_write_4 : decode cX5_write 4 = .ok (.iload_n 1, 1) := by decide +kernel
theorem dX5_write_5 : decode cX5_write 5 = .ok (.aload_n 0, 1) := by decide +kernel
theorem dX5_write_6 : decode cX5_write 6 = .ok (.getfield 23, 3) := by decide +kernel
theorem dX5_write_9 : decode cX5_write 9 = .ok (.ifCond .ne 8, 3) := by decide +kernel
theorem dX5_write_12 : decode cX5_write 12 = .ok (.iload_n 2, 1) := by decide +kernel
theorem dX5_write_13 : decode cX5_write 13 = .ok (.i2b, 1) := by decide +kernel
theorem dX5_write_14 : decode cX5_write 14 = .ok (.goto 17, 3) := by decide +kernel
theorem dX5_write_17 : decode cX5_write 17 = .ok (.aload_n 0, 1) := by decide +kernel
theorem dX5_write_18 : decode cX5_write 18 = .ok (.getfield 23, 3) := by decide +kernel
theorem dX5_write_21 : decode cX5_write 21 = .ok (.iconst 1, 1) := by decide +kernel
theorem dX5_write_22 : decode cX5_write 22 = .ok (.if_icmp .ne 8, 3) := by decide +kernel
theorem dX5_write_25 : decode cX5_write 25 = .ok (.iload_n 2, 1) := by decide +kernel
theorem dX5_write_26 : decode cX5_write 26 = .ok (.i2s, 1) := by decide +kernel
theorem dX5_write_27 : decode cX5_write 27 = .ok (.goto 4, 3) := by decide +kernel
theorem dX5_write_30 : decode cX5_write 30 = .ok (.iload_n 2, 1) := by decide +kernel
theorem dX5_write_31 : decode cX5_write 31 = .ok (.iastore, 1) := by decide +kernel
theorem dX5_write_32 : decode cX5_write 32 = .ok (.return_, 1) := by decide +kernel
theorem dX6_init_0 : decode cX6_init 0 = .ok (.aload_n 0, 1) := by decide +kernel
theorem dX6_init_1 : decode cX6_init 1 = .ok (.invokespecial 3, 3) := by decide +kernel
theorem dX6_init_4 : decode cX6_init 4 = .ok (.aload_n 0, 1) := by decide +kernel
theorem dX6_init_5 : decode cX6_init 5 = .ok (.bipush 40, 2) := by decide +kernel
theorem dX6_init_7 : decode cX6_init 7 = .ok (.newarray .int, 2) := by decide +kernel
theorem dX6_init_9 : decode cX6_init 9 = .ok (.putfield 9, 3) := by decide +kernel
theorem dX6_init_12 : decode cX6_init 12 = .ok (.aload_n 0, 1) := by decide +kernel
theorem dX6_init_13 : decode cX6_init 13 = .ok (.iconst 0, 1) := by decide +kernel
theorem dX6_init_14 : decode cX6_init 14 = .ok (.putfield 15, 3) := by decide +kernel
theorem dX6_init_17 : decode cX6_init 17 = .ok (.return_, 1) := by decide +kernel
theorem dX6_append_0 : decode cX6_append 0 = .ok (.aload_n 0, 1) := by decide +kernel
theorem dX6_append_1 : decode cX6_append 1 = .ok (.getfield 15, 3) := by decide +kernel
theorem dX6_append_4 : decode cX6_append 4 = .ok (.bipush 40, 2) := by decide +kernel
theorem dX6_append_6 : decode cX6_append 6 = .ok (.if_icmp .ge 23, 3) := by decide +kernel
theorem dX6_append_9 : decode cX6_append 9 = .ok (.aload_n 0, 1) := by decide +kernel
theorem dX6_append_10 : decode cX6_append 10 = .ok (.getfield 9, 3) := by decide +kernel
theorem dX6_append_13 : decode cX6_append 13 = .ok (.aload_n 0, 1) := by decide +kernel
theorem dX6_append_14 : decode cX6_append 14 = .ok (.getfield 15, 3) := by decide +kernel
theorem dX6_append_17 : decode cX6_append 17 = .ok (.iload_n 1, 1) := by decide +kernel
theorem dX6_append_18 : decode cX6_append 18 = .ok (.iastore, 1) := by decide +kernel
theorem dX6_append_19 : decode cX6_append 19 = .ok (.aload_n 0, 1) := by decide +kernel
theorem dX6_append_20 : decode cX6_append 20 = .ok (.dup, 1) := by decide +kernel
theorem dX6_append_21 : decode cX6_append 21 = .ok (.getfield 15, 3) := by decide +kernel
theorem dX6_append_24 : decode cX6_append 24 = .ok (.iconst 1, 1) := by decide +kernel
theorem dX6_append_25 : decode cX6_append 25 = .ok (.iadd, 1) := by decide +kernel
theorem dX6_append_26 : decode cX6_append 26 = .ok (.putfield 15, 3) := by decide +kernel
theorem dX6_append_29 : decode cX6_append 29 = .ok (.return_, 1) := by decide +kernel
theorem dX6_fault_0 : decode cX6_fault 0 = .ok (.iconst 0, 1) := by decide +kernel
theorem dX6_fault_1 : decode cX6_fault 1 = .ok (.istore_n 1, 1) := by decide +kernel
theorem dX6_fault_2 : decode cX6_fault 2 = .ok (.iconst 0, 1) := by decide +kernel
theorem dX6_fault_3 : decode cX6_fault 3 = .ok (.istore_n 2, 1) := by decide +kernel
theorem dX6_fault_4 : decode cX6_fault 4 = .ok (.iload_n 2, 1) := by decide +kernel
theorem dX6_fault_5 : decode cX6_fault 5 = .ok (.aload_n 0, 1) := by decide +kernel
theorem dX6_fault_6 : decode cX6_fault 6 = .ok (.getfield 15, 3) := by decide +kernel
theorem dX6_fault_9 : decode cX6_fault 9 = .ok (.if_icmp .ge 53, 3) := by decide +kernel
theorem dX6_fault_12 : decode cX6_fault 12 = .ok (.aload_n 0, 1) := by decide +kernel
theorem dX6_fault_13 : decode cX6_fault 13 = .ok (.getfield 9, 3) := by decide +kernel
theorem dX6_fault_16 : decode cX6_fault 16 = .ok (.iload_n 2, 1) := by decide +kernel
theorem dX6_fault_17 : decode cX6_fault 17 = .ok (.iaload, 1) := by decide +kernel
theorem dX6_fault_18 : decode cX6_fault 18 = .ok (.istore_n 3, 1) := by decide +kernel
theorem dX6_fault_19 : decode cX6_fault 19 = .ok (.iload_n 3, 1) := by decide +kernel
theorem dX6_fault_20 : decode cX6_fault 20 = .ok (.bipush 32, 2) := by decide +kernel
theorem dX6_fault_22 : decode cX6_fault 22 = .ok (.if_icmp .eq 34, 3) := by decide +kernel
theorem dX6_fault_25 : decode cX6_fault 25 = .ok (.ldc 19, 2) := by decide +kernel
theorem dX6_fault_27 : decode cX6_fault 27 = .ok (.iload_n 3, 1) := by decide +kernel
theorem dX6_fault_28 : decode cX6_fault 28 = .ok (.i2c, 1) := by decide +kernel
theorem dX6_fault_29 : decode cX6_fault 29 = .ok (.invokevirtual 21, 3) := by decide +kernel
theorem dX6_fault_32 : decode cX6_fault 32 = .ok (.ifCond .lt 12, 3) := by decide +kernel
theorem dX6_fault_35 : decode cX6_fault 35 = .ok (.iload_n 1, 1) := by decide +kernel
theorem dX6_fault_36 : decode cX6_fault 36 = .ok (.iload_n 3, 1) := by decide +kernel
theorem dX6_fault_37 : decode cX6_fault 37 = .ok (.invokestatic 27, 3) := by decide +kernel
theorem dX6_fault_40 : decode cX6_fault 40 = .ok (.iand, 1) := by decide +kernel
theorem dX6_fault_41 : decode cX6_fault 41 = .ok (.ifCond .eq 8, 3) := by decide +kernel
theorem dX6_fault_44 : decode cX6_fault 44 = .ok (.bipush (-20), 2) := by decide +kernel
theorem dX6_fault_46 : decode cX6_fault 46 = .ok (.iload_n 2, 1) := by decide +kernel
theorem dX6_fault_47 : decode cX6_fault 47 = .ok (.isub, 1) := by decide +kernel
theorem dX6_fault_48 : decode cX6_fault 48 = .ok (.ireturn, 1) := by decide +kernel
theorem dX6_fault_49 : decode cX6_fault 49 = .ok (.iload_n 1, 1) := by decide +kernel
theorem dX6_fault_50 : decode cX6_fault 50 = .ok (.iload_n 3, 1) := by decide +kernel
theorem dX6_fault_51 : decode cX6_fault 51 = .ok (.invokestatic 27, 3) := by decide +kernel
theorem dX6_fault_54 : decode cX6_fault 54 = .ok (.ior, 1) := by decide +kernel
theorem dX6_fault_55 : decode cX6_fault 55 = .ok (.istore_n 1, 1) := by decide +kernel
theorem dX6_fault_56 : decode cX6_fault 56 = .ok (.iinc 2 1, 3) := by decide +kernel
theorem dX6_fault_59 : decode cX6_fault 59 = .ok (.goto (-55), 3) := by decide +kernel
theorem dX6_fault_62 : decode cX6_fault 62 = .ok (.iload_n 1, 1) := by decide +kernel
theorem dX6_fault_63 : decode cX6_fault 63 = .ok (.ifCond .ne 13, 3) := by decide +kernel
theorem dX6_fault_66 : decode cX6_fault 66 = .ok (.bipush (-20), 2) := by decide +kernel
theorem dX6_fault_68 : decode cX6_fault 68 = .ok (.aload_n 0, 1) := by decide +kernel
theorem dX6_fault_69 : decode cX6_fault 69 = .ok (.getfield 15, 3) := by decide +kernel
theorem dX6_fault_72 : decode cX6_fault 72 = .ok (.isub, 1) := by decide +kernel
theorem dX6_fault_73 : decode cX6_fault 73 = .ok (.goto 4, 3) := by decide +kernel
theorem dX6_fault_76 : decode cX6_fault 76 = .ok (.iconst 0, 1) := by decide +kernel
theorem dX6_fault_77 : decode cX6_fault 77 = .ok (.ireturn, 1) := by decide +kernel
theorem dX7_init_0 : decode cX7_init 0 = .ok (.aload_n 0, 1) := by decide +kernel
theorem dX7_init_1 : decode cX7_init 1 = .ok (.invokespecial 3, 3) := by decide +kernel
theorem dX7_init_4 : decode cX7_init 4 = .ok (.aload_n 0, 1) := by decide +kernel
theorem dX7_init_5 : decode cX7_init 5 = .ok (.iconst 3, 1) := by decide +kernel
theorem dX7_init_6 : decode cX7_init 6 = .ok (.newarray .int, 2) := by decide +kernel
theorem dX7_init_8 : decode cX7_init 8 = .ok (.putfield 9, 3) := by decide +kernel
theorem dX7_init_11 : decode cX7_init 11 = .ok (.aload_n 0, 1) := by decide +kernel
theorem dX7_init_12 : decode cX7_init 12 = .ok (.lconst 0, 1) := by decide +kernel
theorem dX7_init_13 : decode cX7_init 13 = .ok (.putfield 15, 3) := by decide +kernel
theorem dX7_init_16 : decode cX7_init 16 = .ok (.aload_n 0, 1) := by decide +kernel
theorem dX7_init_17 : decode cX7_init 17 = .ok (.iconst 0, 1) := by decide +kernel
theorem dX7_init_18 : decode cX7_init 18 = .ok (.putfield 19, 3) := by decide +kernel
theorem dX7_init_21 : decode cX7_init 21 = .ok (.aload_n 0, 1) := by decide +kernel
theorem dX7_init_22 : decode cX7_init 22 = .ok (.iconst 3, 1) := by decide +kernel
theorem dX7_init_23 : decode cX7_init 23 = .ok (.newarray .int, 2) := by decide +kernel
theorem dX7_init_25 : decode cX7_init 25 = .ok (.putfield 23, 3) := by decide +kernel
theorem dX7_init_28 : decode cX7_init 28 = .ok (.aload_n 0, 1) := by decide +kernel
theorem dX7_init_29 : decode cX7_init 29 = .ok (.iconst 4, 1) := by decide +kernel
theorem dX7_init_30 : decode cX7_init 30 = .ok (.anewarray 26, 3) := by decide +kernel
theorem dX7_init_33 : decode cX7_init 33 = .ok (.putfield 28, 3) := by decide +kernel
theorem dX7_init_36 : decode cX7_init 36 = .ok (.aload_n 0, 1) := by decide +kernel
theorem dX7_init_37 : decode cX7_init 37 = .ok (.iconst 0, 1) := by decide +kernel
theorem dX7_init_38 : decode cX7_init 38 = .ok (.putfield 32, 3) := by decide +kernel
theorem dX7_init_41 : decode cX7_init 41 = .ok (.aload_n 0, 1) := by decide +kernel
theorem dX7_init_42 : decode cX7_init 42 = .ok (.iconst 0, 1) := by decide +kernel
theorem dX7_init_43 : decode cX7_init 43 = .ok (.putfield 36, 3) := by decide +kernel
theorem dX7_init_46 : decode cX7_init 46 = .ok (.iconst 0, 1) := by decide +kernel
theorem dX7_init_47 : decode cX7_init 47 = .ok (.istore_n 1, 1) := by decide +kernel
theorem dX7_init_48 : decode cX7_init 48 = .ok (.iload_n 1, 1) := by decide +kernel
theorem dX7_init_49 : decode cX7_init 49 = .ok (.iconst 3, 1) := by decide +kernel
theorem dX7_init_50 : decode cX7_init 50 = .ok (.if_icmp .gt 22, 3) := by decide +kernel
theorem dX7_init_53 : decode cX7_init 53 = .ok (.aload_n 0, 1) := by decide +kernel
theorem dX7_init_54 : decode cX7_init 54 = .ok (.getfield 28, 3) := by decide +kernel
theorem dX7_init_57 : decode cX7_init 57 = .ok (.iload_n 1, 1) := by decide +kernel
theorem dX7_init_58 : decode cX7_init 58 = .ok (.new 26, 3) := by decide +kernel
theorem dX7_init_61 : decode cX7_init 61 = .ok (.dup, 1) := by decide +kernel
theorem dX7_init_62 : decode cX7_init 62 = .ok (.invokespecial 39, 3) := by decide +kernel
theorem dX7_init_65 : decode cX7_init 65 = .ok (.aastore, 1) := by decide +kernel
theorem dX7_init_66 : decode cX7_init 66 = .ok (.iinc 1 1, 3) := by decide +kernel
theorem dX7_init_69 : decode cX7_init 69 = .ok (.goto (-21), 3) := by decide +kernel
theorem dX7_init_72 : decode cX7_init 72 = .ok (.return_, 1) := by decide +kernel
theorem dX7_find_0 : decode cX7_find 0 = .ok (.aload_n 0, 1) := by decide +kernel
theorem dX7_find_1 : decode cX7_find 1 = .ok (.iload_n 3, 1) := by decide +kernel
theorem dX7_find_2 : decode cX7_find 2 = .ok (.putfield 32, 3) := by decide +kernel
theorem dX7_find_5 : decode cX7_find 5 = .ok (.aload_n 0, 1) := by decide +kernel
theorem dX7_find_6 : decode cX7_find 6 = .ok (.iload 4, 2) := by decide +kernel
theorem dX7_find_8 : decode cX7_find 8 = .ok (.putfield 36, 3) := by decide +kernel
theorem dX7_find_11 : decode cX7_find 11 = .ok (.aload_n 0, 1) := by decide +kernel
theorem dX7_find_12 : decode cX7_find 12 = .ok (.iconst 0, 1) := by decide +kernel
theorem dX7_find_13 : decode cX7_find 13 = .ok (.putfield 19, 3) := by decide +kernel
theorem dX7_find_16 : decode cX7_find 16 = .ok (.aload_n 0, 1) := by decide +kernel
theorem dX7_find_17 : decode cX7_find 17 = .ok (.getfield 23, 3) := by decide +kernel
theorem dX7_find_20 : decode cX7_find 20 = .ok (.iconst (-1), 1) := by decide +kernel
theorem dX7_find_21 : decode cX7_find 21 = .ok (.invokestatic 40, 3) := by decide +kernel
theorem dX7_find_24 : decode cX7_find 24 = .ok (.iconst 0, 1) := by decide +kernel
theorem dX7_find_25 : decode cX7_find 25 = .ok (.istore 5, 2) := by decide +kernel
theorem dX7_find_27 : decode cX7_find 27 = .ok (.iload 5, 2) := by decide +kernel
theorem dX7_find_29 : decode cX7_find 29 = .ok (.iconst 3, 1) := by decide +kernel
theorem dX7_find_30 : decode cX7_find 30 = .ok (.if_icmp .gt 21, 3) := by decide +kernel
theorem dX7_find_33 : decode cX7_find 33 = .ok (.aload_n 0, 1) := by decide +kernel
theorem dX7_find_34 : decode cX7_find 34 = .ok (.getfield 28, 3) := by decide +kernel
theorem dX7_find_37 : decode cX7_find 37 = .ok (.iload 5, 2) := by decide +kernel
theorem dX7_find_39 : decode cX7_find 39 = .ok (.aaload, 1) := by decide +kernel
theorem dX7_find_40 : decode cX7_find 40 = .ok (.aload_n 1, 1) := by decide +kernel
theorem dX7_find_41 : decode cX7_find 41 = .ok (.iload_n 2, 1) := by decide +kernel
theorem dX7_find_42 : decode cX7_find 42 = .ok (.invokevirtual 46, 3) := by decide +kernel
theorem dX7_find_45 : decode cX7_find 45 = .ok (.iinc 5 1, 3) := by decide +kernel
theorem dX7_find_48 : decode cX7_find 48 = .ok (.goto (-21), 3) := by decide +kernel
theorem dX7_find_51 : decode cX7_find 51 = .ok (.aload_n 0, 1) := by decide +kernel
theorem dX7_find_52 : decode cX7_find 52 = .ok (.iconst 0, 1) := by decide +kernel
theorem dX7_find_53 : decode cX7_find 53 = .ok (.invokevirtual 50, 3) := by decide +kernel
theorem dX7_find_56 : decode cX7_find 56 = .ok (.return_, 1) := by decide +kernel
theorem dX7_tryFrom_0 : decode cX7_tryFrom 0 = .ok (.aload_n 0, 1) := by decide +kernel
theorem dX7_tryFrom_1 : decode cX7_tryFrom 1 = .ok (.getfield 28, 3) := by decide +kernel
theorem dX7_tryFrom_4 : decode cX7_tryFrom 4 = .ok (.iload_n 1, 1) := by decide +kernel
theorem dX7_tryFrom_5 : decode cX7_tryFrom 5 = .ok (.aaload, 1) := by decide +kernel
theorem dX7_tryFrom_6 : decode cX7_tryFrom 6 = .ok (.astore_n 2, 1) := by decide +kernel
theorem dX7_tryFrom_7 : decode cX7_tryFrom 7 = .ok (.aload_n 2, 1) := by decide +kernel
theorem dX7_tryFrom_8 : decode cX7_tryFrom 8 = .ok (.aload_n 0, 1) := by decide +kernel
theorem dX7_tryFrom_9 : decode cX7_tryFrom 9 = .ok (.getfield 36, 3) := by decide +kernel
theorem dX7_tryFrom_12 : decode cX7_tryFrom 12 = .ok (.invokevirtual 54, 3) := by decide +kernel
theorem dX7_tryFrom_15 : decode cX7_tryFrom 15 = .ok (.istore_n 3, 1) := by decide +kernel
theorem dX7_tryFrom_16 : decode cX7_tryFrom 16 = .ok (.iconst 0, 1) := by decide +kernel
theorem dX7_tryFrom_17 : decode cX7_tryFrom 17 = .ok (.istore 4, 2) := by decide +kernel
theorem dX7_tryFrom_19 : decode cX7_tryFrom 19 = .ok (.iload 4, 2) := by decide +kernel
theorem dX7_tryFrom_21 : decode cX7_tryFrom 21 = .ok (.bipush 12, 2) := by decide +kernel
theorem dX7_tryFrom_23 : decode cX7_tryFrom 23 = .ok (.if_icmp .ge 31, 3) := by decide +kernel
theorem dX7_tryFrom_26 : decode cX7_tryFrom 26 = .ok (.iload_n 3, 1) := by decide +kernel
theorem dX7_tryFrom_27 : decode cX7_tryFrom 27 = .ok (.aload_n 0, 1) := by decide +kernel
theorem dX7_tryFrom_28 : decode cX7_tryFrom 28 = .ok (.getfield 32, 3) := by decide +kernel
theorem dX7_tryFrom_31 : decode cX7_tryFrom 31 = .ok (.if_icmp .lt 23, 3) := by decide +kernel
theorem dX7_tryFrom_34 : decode cX7_tryFrom 34 = .ok (.aload_n 2, 1) := by decide +kernel
theorem dX7_tryFrom_35 : decode cX7_tryFrom 35 = .ok (.iload_n 3, 1) := by decide +kernel
theorem dX7_tryFrom_36 : decode cX7_tryFrom 36 = .ok (.invokevirtual 58, 3) := by decide +kernel
theorem dX7_tryFrom_39 : decode cX7_tryFrom 39 = .ok (.aload_n 2, 1) := by decide +kernel
theorem dX7_tryFrom_40 : decode cX7_tryFrom 40 = .ok (.aload_n 0, 1) := by decide +kernel
theorem dX7_tryFrom_41 : decode cX7_tryFrom 41 = .ok (.getfield 36, 3) := by decide +kernel
theorem dX7_tryFrom_44 : decode cX7_tryFrom 44 = .ok (.invokevirtual 54, 3) := by decide +kernel
theorem dX7_tryFrom_47 : decode cX7_tryFrom 47 = .ok (.istore_n 3, 1) := by decide +kernel
theorem dX7_tryFrom_48 : decode cX7_tryFrom 48 = .ok (.iinc 4 1, 3) := by decide +kernel
theorem dX7_tryFrom_51 : decode cX7_tryFrom 51 = .ok (.goto (-32), 3) := by decide +kernel
theorem dX7_tryFrom_54 : decode cX7_tryFrom 54 = .ok (.iload_n 3, 1) := by decide +kernel
theorem dX7_tryFrom_55 : decode cX7_tryFrom 55 = .ok (.ifCond .lt 21, 3) := by decide +kernel
theorem dX7_tryFrom_58 : decode cX7_tryFrom 58 = .ok (.iload_n 3, 1) := by decide +kernel
theorem dX7_tryFrom_59 : decode cX7_tryFrom 59 = .ok (.aload_n 0, 1) := by decide +kernel
theorem dX7_tryFrom_60 : decode cX7_tryFrom 60 = .ok (.getfield 32, 3) := by decide +kernel
theorem dX7_tryFrom_63 : decode cX7_tryFrom 63 = .ok (.if_icmp .ge 13, 3) := by decide +kernel
theorem dX7_tryFrom_66 : decode cX7_tryFrom 66 = .ok (.iload_n 3, 1) := by decide +kernel
theorem dX7_tryFrom_67 : decode cX7_tryFrom 67 = .ok (.iconst 3, 1) := by decide +kernel
theorem dX7_tryFrom_68 : decode cX7_tryFrom 68 = .ok (.if_icmp .ge 8, 3) := by decide +kernel
theorem dX7_tryFrom_71 : decode cX7_tryFrom 71 = .ok (.iload_n 1, 1) := by decide +kernel
theorem dX7_tryFrom_72 : decode cX7_tryFrom 72 = .ok (.iconst 3, 1) := by decide +kernel
theorem dX7_tryFrom_73 : decode cX7_tryFrom 73 = .ok (.if_icmp .lt 20, 3) := by decide +kernel
theorem dX7_tryFrom_76 : decode cX7_tryFrom 76 = .ok (.aload_n 2, 1) := by decide +kernel
theorem dX7_tryFrom_77 : decode cX7_tryFrom 77 = .ok (.aload_n 0, 1) := by decide +kernel
theorem dX7_tryFrom_78 : decode cX7_tryFrom 78 = .ok (.getfield 36, 3) := by decide +kernel
theorem dX7_tryFrom_81 : decode cX7_tryFrom 81 = .ok (.invokevirtual 61, 3) := by decide +kernel
theorem dX7_tryFrom_84 : decode cX7_tryFrom 84 = .ok (.aload_n 0, 1) := by decide +kernel
theorem dX7_tryFrom_85 : decode cX7_tryFrom 85 = .ok (.aload_n 2, 1) := by decide +kernel
theorem dX7_tryFrom_86 : decode cX7_tryFrom 86 = .ok (.invokevirtual 64, 3) := by decide +kernel
theorem dX7_tryFrom_89 : decode cX7_tryFrom 89 = .ok (.invokevirtual 68, 3) := by decide +kernel
theorem dX7_tryFrom_92 : decode cX7_tryFrom 92 = .ok (.return_, 1) := by decide +kernel
theorem dX7_tryFrom_93 : decode cX7_tryFrom 93 = .ok (.aload_n 2, 1) := by decide +kernel
theorem dX7_tryFrom_94 : decode cX7_tryFrom 94 = .ok (.aload_n 2, 1) := by decide +kernel
theorem dX7_tryFrom_95 : decode cX7_tryFrom 95 = .ok (.getfield 72, 3) := by decide +kernel
theorem dX7_tryFrom_98 : decode cX7_tryFrom 98 = .ok (.getfield 76, 3) := by decide +kernel
theorem dX7_tryFrom_101 : decode cX7_tryFrom 101 = .ok (.iload_n 3, 1) := by decide +kernel
theorem dX7_tryFrom_102 : decode cX7_tryFrom 102 = .ok (.aaload, 1) := by decide +kernel
theorem dX7_tryFrom_103 : decode cX7_tryFrom 103 = .ok (.getfield 82, 3) := by decide +kernel
theorem dX7_tryFrom_106 : decode cX7_tryFrom 106 = .ok (.invokevirtual 61, 3) := by decide +kernel
theorem dX7_tryFrom_109 : decode cX7_tryFrom 109 = .ok (.aload_n 0, 1) := by decide +kernel
theorem dX7_tryFrom_110 : decode cX7_tryFrom 110 = .ok (.getfield 28, 3) := by decide +kernel
theorem dX7_tryFrom_113 : decode cX7_tryFrom 113 = .ok (.iload_n 1, 1) := by decide +kernel
theorem dX7_tryFrom_114 : decode cX7_tryFrom 114 = .ok (.iconst 1, 1) := by decide +kernel
theorem dX7_tryFrom_115 : decode cX7_tryFrom 115 = .ok (.iadd, 1) := by decide +kernel
theorem dX7_tryFrom_116 : decode cX7_tryFrom 116 = .ok (.aaload, 1) := by decide +kernel
theorem dX7_tryFrom_117 : decode cX7_tryFrom 117 = .ok (.astore 4, 2) := by decide +kernel
theorem dX7_tryFrom_119 : decode cX7_tryFrom 119 = .ok (.iconst (-1), 1) := by decide +kernel
theorem dX7_tryFrom_120 : decode cX7_tryFrom 120 = .ok (.istore 5, 2) := by decide +kernel
theorem dX7_tryFrom_122 : decode cX7_tryFrom 122 = .ok (.iload 5, 2) := by decide +kernel
theorem dX7_tryFrom_124 : decode cX7_tryFrom 124 = .ok (.aload_n 2, 1) := by decide +kernel
theorem dX7_tryFrom_125 : decode cX7_tryFrom 125 = .ok (.getfield 72, 3) := by decide +kernel
theorem dX7_tryFrom_128 : decode cX7_tryFrom 128 = .ok (.getfield 85, 3) := by decide +kernel
theorem dX7_tryFrom_131 : decode cX7_tryFrom 131 = .ok (.if_icmp .ge 66, 3) := by decide +kernel
theorem dX7_tryFrom_134 : decode cX7_tryFrom 134 = .ok (.iload 5, 2) := by decide +kernel
theorem dX7_tryFrom_136 : decode cX7_tryFrom 136 = .ok (.iconst (-1), 1) := by decide +kernel
theorem dX7_tryFrom_137 : decode cX7_tryFrom 137 = .ok (.if_icmp .eq 12, 3) := by decide +kernel
theorem dX7_tryFrom_140 : decode cX7_tryFrom 140 = .ok (.aload_n 2, 1) := by decide +kernel
theorem dX7_tryFrom_141 : decode cX7_tryFrom 141 = .ok (.iload 5, 2) := by decide +kernel
theorem dX7_tryFrom_143 : decode cX7_tryFrom 143 = .ok (.invokevirtual 88, 3) := by decide +kernel
theorem dX7_tryFrom_146 : decode cX7_tryFrom 146 = .ok (.ifCond .eq 45, 3) := by decide +kernel
theorem dX7_tryFrom_149 : decode cX7_tryFrom 149 = .ok (.aload_n 0, 1) := by decide +kernel
theorem dX7_tryFrom_150 : decode cX7_tryFrom 150 = .ok (.getfield 23, 3) := by decide +kernel
theorem dX7_tryFrom_153 : decode cX7_tryFrom 153 = .ok (.iload_n 3, 1) := by decide +kernel
theorem dX7_tryFrom_154 : decode cX7_tryFrom 154 = .ok (.iload 5, 2) := by decide +kernel
theorem dX7_tryFrom_156 : decode cX7_tryFrom 156 = .ok (.iastore, 1) := by decide +kernel
theorem dX7_tryFrom_157 : decode cX7_tryFrom 157 = .ok (.aload 4, 2) := by decide +kernel
theorem dX7_tryFrom_159 : decode cX7_tryFrom 159 = .ok (.aload_n 2, 1) := by decide +kernel
theorem dX7_tryFrom_160 : decode cX7_tryFrom 160 = .ok (.invokevirtual 92, 3) := by decide +kernel
theorem dX7_tryFrom_163 : decode cX7_tryFrom 163 = .ok (.aload 4, 2) := by decide +kernel
theorem dX7_tryFrom_165 : decode cX7_tryFrom 165 = .ok (.getfield 72, 3) := by decide +kernel
theorem dX7_tryFrom_168 : decode cX7_tryFrom 168 = .ok (.getfield 76, 3) := by decide +kernel
theorem dX7_tryFrom_171 : decode cX7_tryFrom 171 = .ok (.iload_n 3, 1) := by decide +kernel
theorem dX7_tryFrom_172 : decode cX7_tryFrom 172 = .ok (.aaload, 1) := by decide +kernel
theorem dX7_tryFrom_173 : decode cX7_tryFrom 173 = .ok (.iload 5, 2) := by decide +kernel
theorem dX7_tryFrom_175 : decode cX7_tryFrom 175 = .ok (.putfield 96, 3) := by decide +kernel
theorem dX7_tryFrom_178 : decode cX7_tryFrom 178 = .ok (.aload 4, 2) := by decide +kernel
theorem dX7_tryFrom_180 : decode cX7_tryFrom 180 = .ok (.iload_n 3, 1) := by decide +kernel
theorem dX7_tryFrom_181 : decode cX7_tryFrom 181 = .ok (.invokevirtual 58, 3) := by decide +kernel
theorem dX7_tryFrom_184 : decode cX7_tryFrom 184 = .ok (.aload_n 0, 1) := by decide +kernel
theorem dX7_tryFrom_185 : decode cX7_tryFrom 185 = .ok (.iload_n 1, 1) := by decide +kernel
theorem dX7_tryFrom_186 : decode cX7_tryFrom 186 = .ok (.iconst 1, 1) := by decide +kernel
theorem dX7_tryFrom_187 : decode cX7_tryFrom 187 = .ok (.iadd, 1) := by decide +kernel
theorem dX7_tryFrom_188 : decode cX7_tryFrom 188 = .ok (.invokevirtual 50, 3) := by decide +kernel
theorem dX7_tryFrom_191 : decode cX7_tryFrom 191 = .ok (.iinc 5 1, 3) := by decide +kernel
theorem dX7_tryFrom_194 : decode cX7_tryFrom 194 = .ok (.goto (-72), 3) := by decide +kernel
theorem dX7_tryFrom_197 : decode cX7_tryFrom 197 = .ok (.return_, 1) := by decide +kernel
theorem dX7_weigh_0 : decode cX7_weigh 0 = .ok (.aload_n 0, 1) := by decide +kernel
theorem dX7_weigh_1 : decode cX7_weigh 1 = .ok (.getfield 19, 3) := by decide +kernel
theorem dX7_weigh_4 : decode cX7_weigh 4 = .ok (.ifCond .eq 28, 3) := by decide +kernel
theorem dX7_weigh_7 : decode cX7_weigh 7 = .ok (.lload_n 1, 1) := by decide +kernel
theorem dX7_weigh_8 : decode cX7_weigh 8 = .ok (.aload_n 0, 1) := by decide +kernel
theorem dX7_weigh_9 : decode cX7_weigh 9 = .ok (.getfield 15, 3) := by decide +kernel
theorem dX7_weigh_12 : decode cX7_weigh 12 = .ok (.lcmp, 1) := by decide +kernel
theorem dX7_weigh_13 : decode cX7_weigh 13 = .ok (.ifCond .lt 19, 3) := by decide +kernel
theorem dX7_weigh_16 : decode cX7_weigh 16 = .ok (.lload_n 1, 1) := by decide +kernel
theorem dX7_weigh_17 : decode cX7_weigh 17 = .ok (.aload_n 0, 1) := by decide +kernel
theorem dX7_weigh_18 : decode cX7_weigh 18 = .ok (.getfield 15, 3) := by decide +kernel
theorem dX7_weigh_21 : decode cX7_weigh 21 = .ok (.lcmp, 1) := by decide +kernel
theorem dX7_weigh_22 : decode cX7_weigh 22 = .ok (.ifCond .ne 34, 3) := by decide +kernel
theorem dX7_weigh_25 : decode cX7_weigh 25 = .ok (.aload_n 0, 1) := by decide +kernel
theorem dX7_weigh_26 : decode cX7_weigh 26 = .ok (.invokevirtual 99, 3) := by decide +kernel
theorem dX7_weigh_29 : decode cX7_weigh 29 = .ok (.ifCond .eq 27, 3) := by decide +kernel
theorem dX7_weigh_32 : decode cX7_weigh 32 = .ok (.aload_n 0, 1) := by decide +kernel
theorem dX7_weigh_33 : decode cX7_weigh 33 = .ok (.iconst 1, 1) := by decide +kernel
theorem dX7_weigh_34 : decode cX7_weigh 34 = .ok (.putfield 19, 3) := by decide +kernel
theorem dX7_weigh_37 : decode cX7_weigh 37 = .ok (.aload_n 0, 1) := by decide +kernel
theorem dX7_weigh_38 : decode cX7_weigh 38 = .ok (.lload_n 1, 1) := by decide +kernel
theorem dX7_weigh_39 : decode cX7_weigh 39 = .ok (.putfield 15, 3) := by decide +kernel
theorem dX7_weigh_42 : decode cX7_weigh 42 = .ok (.aload_n 0, 1) := by decide +kernel
theorem dX7_weigh_43 : decode cX7_weigh 43 = .ok (.getfield 23, 3) := by decide +kernel
theorem dX7_weigh_46 : decode cX7_weigh 46 = .ok (.iconst 0, 1) := by decide +kernel
theorem dX7_weigh_47 : decode cX7_weigh 47 = .ok (.aload_n 0, 1) := by decide +kernel
theorem dX7_weigh_48 : decode cX7_weigh 48 = .ok (.getfield 9, 3) := by decide +kernel
theorem dX7_weigh_51 : decode cX7_weigh 51 = .ok (.iconst 0, 1) := by decide +kernel
theorem dX7_weigh_52 : decode cX7_weigh 52 = .ok (.iconst 3, 1) := by decide +kernel
theorem dX7_weigh_53 : decode cX7_weigh 53 = .ok (.invokestatic 103, 3) := by decide +kernel
theorem dX7_weigh_56 : decode cX7_weigh 56 = .ok (.return_, 1) := by decide +kernel
theorem dX7_isTriedAhead_0 : decode cX7_isTriedAhead 0 = .ok (.iconst 0, 1) := by decide +kernel
theorem dX7_isTriedAhead_1 : decode cX7_isTriedAhead 1 = .ok (.istore_n 1, 1) := by decide +kernel
theorem dX7_isTriedAhead_2 : decode cX7_isTriedAhead 2 = .ok (.iload_n 1, 1) := by decide +kernel
theorem dX7_isTriedAhead_3 : decode cX7_isTriedAhead 3 = .ok (.aload_n 0, 1) := by decide +kernel
theorem dX7_isTriedAhead_4 : decode cX7_isTriedAhead 4 = .ok (.getfield 32, 3) := by decide +kernel
theorem dX7_isTriedAhead_7 : decode cX7_isTriedAhead 7 = .ok (.if_icmp .ge 45, 3) := by decide +kernel
theorem dX7_isTriedAhead_10 : decode cX7_isTriedAhead 10 = .ok (.aload_n 0, 1) := by decide +kernel
theorem dX7_isTriedAhead_11 : decode cX7_isTriedAhead 11 = .ok (.getfield 23, 3) := by decide +kernel
theorem dX7_isTriedAhead_14 : decode cX7_isTriedAhead 14 = .ok (.iload_n 1, 1) := by decide +kernel
theorem dX7_isTriedAhead_15 : decode cX7_isTriedAhead 15 = .ok (.iaload, 1) := by decide +kernel
theorem dX7_isTriedAhead_16 : decode cX7_isTriedAhead 16 = .ok (.aload_n 0, 1) := by decide +kernel
theorem dX7_isTriedAhead_17 : decode cX7_isTriedAhead 17 = .ok (.getfield 9, 3) := by decide +kernel
theorem dX7_isTriedAhead_20 : decode cX7_isTriedAhead 20 = .ok (.iload_n 1, 1) := by decide +kernel
theorem dX7_isTriedAhead_21 : decode cX7_isTriedAhead 21 = .ok (.iaload, 1) := by decide +kernel
theorem dX7_isTriedAhead_22 : decode cX7_isTriedAhead 22 = .ok (.if_icmp .eq 24, 3) := by decide +kernel
theorem dX7_isTriedAhead_25 : decode cX7_isTriedAhead 25 = .ok (.aload_n 0, 1) := by decide +kernel
theorem dX7_isTriedAhead_26 : decode cX7_isTriedAhead 26 = .ok (.getfield 23, 3) := by decide +kernel
theorem dX7_isTriedAhead_29 : decode cX7_isTriedAhead 29 = .ok (.iload_n 1, 1) := by decide +kernel
theorem dX7_isTriedAhead_30 : decode cX7_isTriedAhead 30 = .ok (.iaload, 1) := by decide +kernel
theorem dX7_isTriedAhead_31 : decode cX7_isTriedAhead 31 = .ok (.aload_n 0, 1) := by decide +kernel
theorem dX7_isTriedAhead_32 : decode cX7_isTriedAhead 32 = .ok (.getfield 9, 3) := by decide +kernel
theorem dX7_isTriedAhead_35 : decode cX7_isTriedAhead 35 = .ok (.iload_n 1, 1) := by decide +kernel
theorem dX7_isTriedAhead_36 : decode cX7_isTriedAhead 36 = .ok (.iaload, 1) := by decide +kernel
theorem dX7_isTriedAhead_37 : decode cX7_isTriedAhead 37 = .ok (.if_icmp .ge 7, 3) := by decide +kernel
theorem dX7_isTriedAhead_40 : decode cX7_isTriedAhead 40 = .ok (.iconst 1, 1) := by decide +kernel
theorem dX7_isTriedAhead_41 : decode cX7_isTriedAhead 41 = .ok (.goto 4, 3) := by decide +kernel
theorem dX7_isTriedAhead_44 : decode cX7_isTriedAhead 44 = .ok (.iconst 0, 1) := by decide +kernel
theorem dX7_isTriedAhead_45 : decode cX7_isTriedAhead 45 = .ok (.ireturn, 1) := by decide +kernel
theorem dX7_isTriedAhead_46 : decode cX7_isTriedAhead 46 = .ok (.iinc 1 1, 3) := by decide +kernel
theorem dX7_isTriedAhead_49 : decode cX7_isTriedAhead 49 = .ok (.goto (-47), 3) := by decide +kernel
theorem dX7_isTriedAhead_52 : decode cX7_isTriedAhead 52 = .ok (.iconst 0, 1) := by decide +kernel
theorem dX7_isTriedAhead_53 : decode cX7_isTriedAhead 53 = .ok (.ireturn, 1) := by decide +kernel
theorem dX8_init_0 : decode cX8_init 0 = .ok (.aload_n 0, 1) := by decide +kernel
theorem dX8_init_1 : decode cX8_init 1 = .ok (.invokespecial 1, 3) := by decide +kernel
theorem dX8_init_4 : decode cX8_init 4 = .ok (.aload_n 0, 1) := by decide +kernel
theorem dX8_init_5 : decode cX8_init 5 = .ok (.new 7, 3) := by decide +kernel
theorem dX8_init_8 : decode cX8_init 8 = .ok (.dup, 1) := by decide +kernel
theorem dX8_init_9 : decode cX8_init 9 = .ok (.invokespecial 9, 3) := by decide +kernel
theorem dX8_init_12 : decode cX8_init 12 = .ok (.putfield 10, 3) := by decide +kernel
theorem dX8_init_15 : decode cX8_init 15 = .ok (.aload_n 0, 1) := by decide +kernel
theorem dX8_init_16 : decode cX8_init 16 = .ok (.new 7, 3) := by decide +kernel
theorem dX8_init_19 : decode cX8_init 19 = .ok (.dup, 1) := by decide +kernel
theorem dX8_init_20 : decode cX8_init 20 = .ok (.invokespecial 9, 3) := by decide +kernel
theorem dX8_init_23 : decode cX8_init 23 = .ok (.putfield 16, 3) := by decide +kernel
theorem dX8_init_26 : decode cX8_init 26 = .ok (.aload_n 0, 1) := by decide +kernel
theorem dX8_init_27 : decode cX8_init 27 = .ok (.iconst 0, 1) := by decide +kernel
theorem dX8_init_28 : decode cX8_init 28 = .ok (.putfield 19, 3) := by decide +kernel
theorem dX8_init_31 : decode cX8_init 31 = .ok (.aload_n 0, 1) := by decide +kernel
theorem dX8_init_32 : decode cX8_init 32 = .ok (.new 23, 3) := by decide +kernel
theorem dX8_init_35 : decode cX8_init 35 = .ok (.dup, 1) := by decide +kernel
theorem dX8_init_36 : decode cX8_init 36 = .ok (.invokespecial 25, 3) := by decide +kernel
theorem dX8_init_39 : decode cX8_init 39 = .ok (.putfield 26, 3) := by decide +kernel
theorem dX8_init_42 : decode cX8_init 42 = .ok (.aload_n 0, 1) := by decide +kernel
theorem dX8_init_43 : decode cX8_init 43 = .ok (.new 23, 3) := by decide +kernel
theorem dX8_init_46 : decode cX8_init 46 = .ok (.dup, 1) := by decide +kernel
theorem dX8_init_47 : decode cX8_init 47 = .ok (.invokespecial 25, 3) := by decide +kernel
theorem dX8_init_50 : decode cX8_init 50 = .ok (.putfield 30, 3) := by decide +kernel
theorem dX8_init_53 : decode cX8_init 53 = .ok (.aload_n 0, 1) := by decide +kernel
theorem dX8_init_54 : decode cX8_init 54 = .ok (.new 33, 3) := by decide +kernel
theorem dX8_init_57 : decode cX8_init 57 = .ok (.dup, 1) := by decide +kernel
theorem dX8_init_58 : decode cX8_init 58 = .ok (.invokespecial 35, 3) := by decide +kernel
theorem dX8_init_61 : decode cX8_init 61 = .ok (.putfield 36, 3) := by decide +kernel
theorem dX8_init_64 : decode cX8_init 64 = .ok (.aload_n 0, 1) := by decide +kernel
theorem dX8_init_65 : decode cX8_init 65 = .ok (.new 40, 3) := by decide +kernel
theorem dX8_init_68 : decode cX8_init 68 = .ok (.dup, 1) := by decide +kernel
theorem dX8_init_69 : decode cX8_init 69 = .ok (.invokespecial 42, 3) := by decide +kernel
theorem dX8_init_72 : decode cX8_init 72 = .ok (.putfield 43, 3) := by decide +kernel
theorem dX8_init_75 : decode cX8_init 75 = .ok (.aload_n 0, 1) := by decide +kernel
theorem dX8_init_76 : decode cX8_init 76 = .ok (.iconst 4, 1) := by decide +kernel
theorem dX8_init_77 : decode cX8_init 77 = .ok (.anewarray 47, 3) := by decide +kernel
theorem dX8_init_80 : decode cX8_init 80 = .ok (.putfield 49, 3) := by decide +kernel
theorem dX8_init_83 : decode cX8_init 83 = .ok (.iconst 0, 1) := by decide +kernel
theorem dX8_init_84 : decode cX8_init 84 = .ok (.istore_n 1, 1) := by decide +kernel
theorem dX8_init_85 : decode cX8_init 85 = .ok (.iload_n 1, 1) := by decide +kernel
theorem dX8_init_86 : decode cX8_init 86 = .ok (.iconst 4, 1) := by decide +kernel
theorem dX8_init_87 : decode cX8_init 87 = .ok (.if_icmp .ge 22, 3) := by decide +kernel
theorem dX8_init_90 : decode cX8_init 90 = .ok (.aload_n 0, 1) := by decide +kernel
theorem dX8_init_91 : decode cX8_init 91 = .ok (.getfield 49, 3) := by decide +kernel
theorem dX8_init_94 : decode cX8_init 94 = .ok (.iload_n 1, 1) := by decide +kernel
theorem dX8_init_95 : decode cX8_init 95 = .ok (.new 47, 3) := by decide +kernel
theorem dX8_init_98 : decode cX8_init 98 = .ok (.dup, 1) := by decide +kernel
theorem dX8_init_99 : decode cX8_init 99 = .ok (.invokespecial 53, 3) := by decide +kernel
theorem dX8_init_102 : decode cX8_init 102 = .ok (.aastore, 1) := by decide +kernel
theorem dX8_init_103 : decode cX8_init 103 = .ok (.iinc 1 1, 3) := by decide +kernel
theorem dX8_init_106 : decode cX8_init 106 = .ok (.goto (-21), 3) := by decide +kernel
theorem dX8_init_109 : decode cX8_init 109 = .ok (.return_, 1) := by decide +kernel
theorem dX8_debt_0 : decode cX8_debt 0 = .ok (.iload_n 1, 1) := by decide +kernel
theorem dX8_debt_1 : decode cX8_debt 1 = .ok (.iconst 1, 1) := by decide +kernel
theorem dX8_debt_2 : decode cX8_debt 2 = .ok (.sipush 9999, 3) := by decide +kernel
theorem dX8_debt_5 : decode cX8_debt 5 = .ok (.invokestatic 54, 3) := by decide +kernel
theorem dX8_debt_8 : decode cX8_debt 8 = .ok (.ifCond .eq 28, 3) := by decide +kernel
theorem dX8_debt_11 : decode cX8_debt 11 = .ok (.iload_n 2, 1) := by decide +kernel
theorem dX8_debt_12 : decode cX8_debt 12 = .ok (.invokestatic 58, 3) := by decide +kernel
theorem dX8_debt_15 : decode cX8_debt 15 = .ok (.ifCond .eq 21, 3) := by decide +kernel
theorem dX8_debt_18 : decode cX8_debt 18 = .ok (.iload_n 3, 1) := by decide +kernel
theorem dX8_debt_19 : decode cX8_debt 19 = .ok (.invokestatic 58, 3) := by decide +kernel
theorem dX8_debt_22 : decode cX8_debt 22 = .ok (.ifCond .eq 14, 3) := by decide +kernel
theorem dX8_debt_25 : decode cX8_debt 25 = .ok (.iload 4, 2) := by decide +kernel
theorem dX8_debt_27 : decode cX8_debt 27 = .ok (.iconst 0, 1) := by decide +kernel
theorem dX8_debt_28 : decode cX8_debt 28 = .ok (.bipush 99, 2) := by decide +kernel
theorem dX8_debt_30 : decode cX8_debt 30 = .ok (.invokestatic 54, 3) := by decide +kernel
theorem dX8_debt_33 : decode cX8_debt 33 = .ok (.ifCond .ne 5, 3) := by decide +kernel
theorem dX8_debt_36 : decode cX8_debt 36 = .ok (.iconst (-1), 1) := by decide +kernel
theorem dX8_debt_37 : decode cX8_debt 37 = .ok (.ireturn, 1) := by decide +kernel
theorem dX8_debt_38 : decode cX8_debt 38 = .ok (.aload_n 0, 1) := by decide +kernel
theorem dX8_debt_39 : decode cX8_debt 39 = .ok (.getfield 10, 3) := by decide +kernel
theorem dX8_debt_42 : decode cX8_debt 42 = .ok (.getfield 62, 3) := by decide +kernel
theorem dX8_debt_45 : decode cX8_debt 45 = .ok (.bipush 8, 2) := by decide +kernel
theorem dX8_debt_47 : decode cX8_debt 47 = .ok (.if_icmp .lt 6, 3) := by decide +kernel
theorem dX8_debt_50 : decode cX8_debt 50 = .ok (.bipush (-3), 2) := by decide +kernel
theorem dX8_debt_52 : decode cX8_debt 52 = .ok (.ireturn, 1) := by decide +kernel
theorem dX8_debt_53 : decode cX8_debt 53 = .ok (.aload_n 0, 1) := by decide +kernel
theorem dX8_debt_54 : decode cX8_debt 54 = .ok (.getfield 10, 3) := by decide +kernel
theorem dX8_debt_57 : decode cX8_debt 57 = .ok (.getfield 66, 3) := by decide +kernel
theorem dX8_debt_60 : decode cX8_debt 60 = .ok (.aload_n 0, 1) := by decide +kernel
theorem dX8_debt_61 : decode cX8_debt 61 = .ok (.getfield 10, 3) := by decide +kernel
theorem dX8_debt_64 : decode cX8_debt 64 = .ok (.getfield 62, 3) := by decide +kernel
theorem dX8_debt_67 : decode cX8_debt 67 = .ok (.aaload, 1) := by decide +kernel
theorem dX8_debt_68 : decode cX8_debt 68 = .ok (.iload_n 1, 1) := by decide +kernel
theorem dX8_debt_69 : decode cX8_debt 69 = .ok (.iload_n 2, 1) := by decide +kernel
theorem dX8_debt_70 : decode cX8_debt 70 = .ok (.iload_n 3, 1) := by decide +kernel
theorem dX8_debt_71 : decode cX8_debt 71 = .ok (.iload 4, 2) := by decide +kernel
theorem dX8_debt_73 : decode cX8_debt 73 = .ok (.invokevirtual 70, 3) := by decide +kernel
theorem dX8_debt_76 : decode cX8_debt 76 = .ok (.aload_n 0, 1) := by decide +kernel
theorem dX8_debt_77 : decode cX8_debt 77 = .ok (.getfield 10, 3) := by decide +kernel
theorem dX8_debt_80 : decode cX8_debt 80 = .ok (.dup, 1) := by decide +kernel
theorem dX8_debt_81 : decode cX8_debt 81 = .ok (.getfield 62, 3) := by decide +kernel
theorem dX8_debt_84 : decode cX8_debt 84 = .ok (.iconst 1, 1) := by decide +kernel
theorem dX8_debt_85 : decode cX8_debt 85 = .ok (.iadd, 1) := by decide +kernel
theorem dX8_debt_86 : decode cX8_debt 86 = .ok (.putfield 62, 3) := by decide +kernel
theorem dX8_debt_89 : decode cX8_debt 89 = .ok (.aload_n 0, 1) := by decide +kernel
theorem dX8_debt_90 : decode cX8_debt 90 = .ok (.getfield 10, 3) := by decide +kernel
theorem dX8_debt_93 : decode cX8_debt 93 = .ok (.getfield 62, 3) := by decide +kernel
theorem dX8_debt_96 : decode cX8_debt 96 = .ok (.iconst 1, 1) := by decide +kernel
theorem dX8_debt_97 : decode cX8_debt 97 = .ok (.isub, 1) := by decide +kernel
theorem dX8_debt_98 : decode cX8_debt 98 = .ok (.ireturn, 1) := by decide +kernel
theorem dX8_set_0 : decode cX8_set 0 = .ok (.aload_n 0, 1) := by decide +kernel
theorem dX8_set_1 : decode cX8_set 1 = .ok (.iload_n 1, 1) := by decide +kernel
theorem dX8_set_2 : decode cX8_set 2 = .ok (.invokevirtual 76, 3) := by decide +kernel
theorem dX8_set_5 : decode cX8_set 5 = .ok (.ifCond .eq 29, 3) := by decide +kernel
theorem dX8_set_8 : decode cX8_set 8 = .ok (.iload_n 2, 1) := by decide +kernel
theorem dX8_set_9 : decode cX8_set 9 = .ok (.iconst 0, 1) := by decide +kernel
theorem dX8_set_10 : decode cX8_set 10 = .ok (.iconst 5, 1) := by decide +kernel
theorem dX8_set_11 : decode cX8_set 11 = .ok (.invokestatic 54, 3) := by decide +kernel
theorem dX8_set_14 : decode cX8_set 14 = .ok (.ifCond .eq 20, 3) := by decide +kernel
theorem dX8_set_17 : decode cX8_set 17 = .ok (.iload_n 3, 1) := by decide +kernel
theorem dX8_set_18 : decode cX8_set 18 = .ok (.getstatic 79, 3) := by decide +kernel
theorem dX8_set_21 : decode cX8_set 21 = .ok (.iload_n 2, 1) := by decide +kernel
theorem dX8_set_22 : decode cX8_set 22 = .ok (.iaload, 1) := by decide +kernel
theorem dX8_set_23 : decode cX8_set 23 = .ok (.getstatic 83, 3) := by decide +kernel
theorem dX8_set_26 : decode cX8_set 26 = .ok (.iload_n 2, 1) := by decide +kernel
theorem dX8_set_27 : decode cX8_set 27 = .ok (.iaload, 1) := by decide +kernel
theorem dX8_set_28 : decode cX8_set 28 = .ok (.invokestatic 54, 3) := by decide +kernel
theorem dX8_set_31 : decode cX8_set 31 = .ok (.ifCond .ne 5, 3) := by decide +kernel
theorem dX8_set_34 : decode cX8_set 34 = .ok (.iconst (-1), 1) := by decide +kernel
theorem dX8_set_35 : decode cX8_set 35 = .ok (.ireturn, 1) := by decide +kernel
theorem dX8_set_36 : decode cX8_set 36 = .ok (.aload_n 0, 1) := by decide +kernel
theorem dX8_set_37 : decode cX8_set 37 = .ok (.getfield 10, 3) := by decide +kernel
theorem dX8_set_40 : decode cX8_set 40 = .ok (.getfield 66, 3) := by decide +kernel
theorem dX8_set_43 : decode cX8_set 43 = .ok (.iload_n 1, 1) := by decide +kernel
theorem dX8_set_44 : decode cX8_set 44 = .ok (.aaload, 1) := by decide +kernel
theorem dX8_set_45 : decode cX8_set 45 = .ok (.getfield 86, 3) := by decide +kernel
theorem dX8_set_48 : decode cX8_set 48 = .ok (.astore 4, 2) := by decide +kernel
theorem dX8_set_50 : decode cX8_set 50 = .ok (.aload 4, 2) := by decide +kernel
theorem dX8_set_52 : decode cX8_set 52 = .ok (.iload_n 2, 1) := by decide +kernel
theorem dX8_set_53 : decode cX8_set 53 = .ok (.iaload, 1) := by decide +kernel
theorem dX8_set_54 : decode cX8_set 54 = .ok (.istore 5, 2) := by decide +kernel
theorem dX8_set_56 : decode cX8_set 56 = .ok (.aload 4, 2) := by decide +kernel
theorem dX8_set_58 : decode cX8_set 58 = .ok (.iload_n 2, 1) := by decide +kernel
theorem dX8_set_59 : decode cX8_set 59 = .ok (.iload_n 3, 1) := by decide +kernel
theorem dX8_set_60 : decode cX8_set 60 = .ok (.iastore, 1) := by decide +kernel
theorem dX8_set_61 : decode cX8_set 61 = .ok (.iload 5, 2) := by decide +kernel
theorem dX8_set_63 : decode cX8_set 63 = .ok (.ireturn, 1) := by decide +kernel
theorem dX8_pay_0 : decode cX8_pay 0 = .ok (.iload_n 1, 1) := by decide +kernel
theorem dX8_pay_1 : decode cX8_pay 1 = .ok (.iload_n 2, 1) := by decide +kernel
theorem dX8_pay_2 : decode cX8_pay 2 = .ok (.invokestatic 89, 3) := by decide +kernel
theorem dX8_pay_5 : decode cX8_pay 5 = .ok (.ifCond .ne 5, 3) := by decide +kernel
theorem dX8_pay_8 : decode cX8_pay 8 = .ok (.iconst (-1), 1) := by decide +kernel
theorem dX8_pay_9 : decode cX8_pay 9 = .ok (.ireturn, 1) := by decide +kernel
theorem dX8_pay_10 : decode cX8_pay 10 = .ok (.aload_n 0, 1) := by decide +kernel
theorem dX8_pay_11 : decode cX8_pay 11 = .ok (.getfield 10, 3) := by decide +kernel
theorem dX8_pay_14 : decode cX8_pay 14 = .ok (.getfield 93, 3) := by decide +kernel
theorem dX8_pay_17 : decode cX8_pay 17 = .ok (.bipush 12, 2) := by decide +kernel
