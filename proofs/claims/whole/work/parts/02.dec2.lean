theorem dX9_beginDays_12 : decode cX9_beginDays 12 = .ok (.iload_n 1, 1) := by decide +kernel
theorem dX9_beginDays_13 : decode cX9_beginDays 13 = .ok (.lconst 0, 1) := by decide +kernel
theorem dX9_beginDays_14 : decode cX9_beginDays 14 = .ok (.lastore, 1) := by decide +kernel
theorem dX9_beginDays_15 : decode cX9_beginDays 15 = .ok (.aload_n 0, 1) := by decide +kernel
theorem dX9_beginDays_16 : decode cX9_beginDays 16 = .ok (.getfield 32, 3) := by decide +kernel
theorem dX9_beginDays_19 : decode cX9_beginDays 19 = .ok (.iload_n 1, 1) := by decide +kernel
theorem dX9_beginDays_20 : decode cX9_beginDays 20 = .ok (.lconst 0, 1) := by decide +kernel
theorem dX9_beginDays_21 : decode cX9_beginDays 21 = .ok (.lastore, 1) := by decide +kernel
theorem dX9_beginDays_22 : decode cX9_beginDays 22 = .ok (.aload_n 0, 1) := by decide +kernel
theorem dX9_beginDays_23 : decode cX9_beginDays 23 = .ok (.getfield 35, 3) := by decide +kernel
theorem dX9_beginDays_26 : decode cX9_beginDays 26 = .ok (.iload_n 1, 1) := by decide +kernel
theorem dX9_beginDays_27 : decode cX9_beginDays 27 = .ok (.iconst (-1), 1) := by decide +kernel
theorem dX9_beginDays_28 : decode cX9_beginDays 28 = .ok (.iastore, 1) := by decide +kernel
theorem dX9_beginDays_29 : decode cX9_beginDays 29 = .ok (.aload_n 0, 1) := by decide +kernel
theorem dX9_beginDays_30 : decode cX9_beginDays 30 = .ok (.getfield 38, 3) := by decide +kernel
theorem dX9_beginDays_33 : decode cX9_beginDays 33 = .ok (.iload_n 1, 1) := by decide +kernel
theorem dX9_beginDays_34 : decode cX9_beginDays 34 = .ok (.bipush (-4), 2) := by decide +kernel
theorem dX9_beginDays_36 : decode cX9_beginDays 36 = .ok (.iastore, 1) := by decide +kernel
theorem dX9_beginDays_37 : decode cX9_beginDays 37 = .ok (.iinc 1 1, 3) := by decide +kernel
theorem dX9_beginDays_40 : decode cX9_beginDays 40 = .ok (.goto (-38), 3) := by decide +kernel
theorem dX9_beginDays_43 : decode cX9_beginDays 43 = .ok (.return_, 1) := by decide +kernel
theorem dX9_runOn_0 : decode cX9_runOn 0 = .ok (.iconst 0, 1) := by decide +kernel
theorem dX9_runOn_1 : decode cX9_runOn 1 = .ok (.istore_n 2, 1) := by decide +kernel
theorem dX9_runOn_2 : decode cX9_runOn 2 = .ok (.iload_n 2, 1) := by decide +kernel
theorem dX9_runOn_3 : decode cX9_runOn 3 = .ok (.aload_n 0, 1) := by decide +kernel
theorem dX9_runOn_4 : decode cX9_runOn 4 = .ok (.getfield 87, 3) := by decide +kernel
theorem dX9_runOn_7 : decode cX9_runOn 7 = .ok (.if_icmp .ge 127, 3) := by decide +kernel
theorem dX9_runOn_10 : decode cX9_runOn 10 = .ok (.aload_n 0, 1) := by decide +kernel
theorem dX9_runOn_11 : decode cX9_runOn 11 = .ok (.getfield 7, 3) := by decide +kernel
theorem dX9_runOn_14 : decode cX9_runOn 14 = .ok (.bipush 8, 2) := by decide +kernel
theorem dX9_runOn_16 : decode cX9_runOn 16 = .ok (.iload_n 2, 1) := by decide +kernel
theorem dX9_runOn_17 : decode cX9_runOn 17 = .ok (.imul, 1) := by decide +kernel
theorem dX9_runOn_18 : decode cX9_runOn 18 = .ok (.iconst 1, 1) := by decide +kernel
theorem dX9_runOn_19 : decode cX9_runOn 19 = .ok (.iadd, 1) := by decide +kernel
theorem dX9_runOn_20 : decode cX9_runOn 20 = .ok (.iaload, 1) := by decide +kernel
theorem dX9_runOn_21 : decode cX9_runOn 21 = .ok (.iload_n 1, 1) := by decide +kernel
theorem dX9_runOn_22 : decode cX9_runOn 22 = .ok (.if_icmp .ne 26, 3) := by decide +kernel
theorem dX9_runOn_25 : decode cX9_runOn 25 = .ok (.aload_n 0, 1) := by decide +kernel
theorem dX9_runOn_26 : decode cX9_runOn 26 = .ok (.getfield 28, 3) := by decide +kernel
theorem dX9_runOn_29 : decode cX9_runOn 29 = .ok (.iload_n 2, 1) := by decide +kernel
theorem dX9_runOn_30 : decode cX9_runOn 30 = .ok (.ldc2_w 135, 3) := by decide +kernel
theorem dX9_runOn_33 : decode cX9_runOn 33 = .ok (.aload_n 0, 1) := by decide +kernel
theorem dX9_runOn_34 : decode cX9_runOn 34 = .ok (.getfield 7, 3) := by decide +kernel
theorem dX9_runOn_37 : decode cX9_runOn 37 = .ok (.bipush 8, 2) := by decide +kernel
theorem dX9_runOn_39 : decode cX9_runOn 39 = .ok (.iload_n 2, 1) := by decide +kernel
theorem dX9_runOn_40 : decode cX9_runOn 40 = .ok (.imul, 1) := by decide +kernel
theorem dX9_runOn_41 : decode cX9_runOn 41 = .ok (.iaload, 1) := by decide +kernel
theorem dX9_runOn_42 : decode cX9_runOn 42 = .ok (.i2l, 1) := by decide +kernel
theorem dX9_runOn_43 : decode cX9_runOn 43 = .ok (.lmul, 1) := by decide +kernel
theorem dX9_runOn_44 : decode cX9_runOn 44 = .ok (.lastore, 1) := by decide +kernel
theorem dX9_runOn_45 : decode cX9_runOn 45 = .ok (.goto 83, 3) := by decide +kernel
theorem dX9_runOn_48 : decode cX9_runOn 48 = .ok (.aload_n 0, 1) := by decide +kernel
theorem dX9_runOn_49 : decode cX9_runOn 49 = .ok (.getfield 7, 3) := by decide +kernel
theorem dX9_runOn_52 : decode cX9_runOn 52 = .ok (.bipush 8, 2) := by decide +kernel
theorem dX9_runOn_54 : decode cX9_runOn 54 = .ok (.iload_n 2, 1) := by decide +kernel
theorem dX9_runOn_55 : decode cX9_runOn 55 = .ok (.imul, 1) := by decide +kernel
theorem dX9_runOn_56 : decode cX9_runOn 56 = .ok (.iconst 1, 1) := by decide +kernel
theorem dX9_runOn_57 : decode cX9_runOn 57 = .ok (.iadd, 1) := by decide +kernel
theorem dX9_runOn_58 : decode cX9_runOn 58 = .ok (.iaload, 1) := by decide +kernel
theorem dX9_runOn_59 : decode cX9_runOn 59 = .ok (.iload_n 1, 1) := by decide +kernel
theorem dX9_runOn_60 : decode cX9_runOn 60 = .ok (.if_icmp .ge 68, 3) := by decide +kernel
theorem dX9_runOn_63 : decode cX9_runOn 63 = .ok (.aload_n 0, 1) := by decide +kernel
theorem dX9_runOn_64 : decode cX9_runOn 64 = .ok (.getfield 7, 3) := by decide +kernel
theorem dX9_runOn_67 : decode cX9_runOn 67 = .ok (.bipush 8, 2) := by decide +kernel
theorem dX9_runOn_69 : decode cX9_runOn 69 = .ok (.iload_n 2, 1) := by decide +kernel
theorem dX9_runOn_70 : decode cX9_runOn 70 = .ok (.imul, 1) := by decide +kernel
theorem dX9_runOn_71 : decode cX9_runOn 71 = .ok (.iconst 4, 1) := by decide +kernel
theorem dX9_runOn_72 : decode cX9_runOn 72 = .ok (.iadd, 1) := by decide +kernel
theorem dX9_runOn_73 : decode cX9_runOn 73 = .ok (.iaload, 1) := by decide +kernel
theorem dX9_runOn_74 : decode cX9_runOn 74 = .ok (.iconst 1, 1) := by decide +kernel
theorem dX9_runOn_75 : decode cX9_runOn 75 = .ok (.if_icmp .ne 19, 3) := by decide +kernel
theorem dX9_runOn_78 : decode cX9_runOn 78 = .ok (.aload_n 0, 1) := by decide +kernel
theorem dX9_runOn_79 : decode cX9_runOn 79 = .ok (.getfield 28, 3) := by decide +kernel
theorem dX9_runOn_82 : decode cX9_runOn 82 = .ok (.iload_n 2, 1) := by decide +kernel
theorem dX9_runOn_83 : decode cX9_runOn 83 = .ok (.laload, 1) := by decide +kernel
theorem dX9_runOn_84 : decode cX9_runOn 84 = .ok (.aload_n 0, 1) := by decide +kernel
theorem dX9_runOn_85 : decode cX9_runOn 85 = .ok (.getfield 32, 3) := by decide +kernel
theorem dX9_runOn_88 : decode cX9_runOn 88 = .ok (.iload_n 2, 1) := by decide +kernel
theorem dX9_runOn_89 : decode cX9_runOn 89 = .ok (.laload, 1) := by decide +kernel
theorem dX9_runOn_90 : decode cX9_runOn 90 = .ok (.ladd, 1) := by decide +kernel
theorem dX9_runOn_91 : decode cX9_runOn 91 = .ok (.goto 9, 3) := by decide +kernel
theorem dX9_runOn_94 : decode cX9_runOn 94 = .ok (.aload_n 0, 1) := by decide +kernel
theorem dX9_runOn_95 : decode cX9_runOn 95 = .ok (.getfield 28, 3) := by decide +kernel
theorem dX9_runOn_98 : decode cX9_runOn 98 = .ok (.iload_n 2, 1) := by decide +kernel
theorem dX9_runOn_99 : decode cX9_runOn 99 = .ok (.laload, 1) := by decide +kernel
theorem dX9_runOn_100 : decode cX9_runOn 100 = .ok (.lstore_n 3, 1) := by decide +kernel
theorem dX9_runOn_101 : decode cX9_runOn 101 = .ok (.aload_n 0, 1) := by decide +kernel
theorem dX9_runOn_102 : decode cX9_runOn 102 = .ok (.getfield 32, 3) := by decide +kernel
theorem dX9_runOn_105 : decode cX9_runOn 105 = .ok (.iload_n 2, 1) := by decide +kernel
theorem dX9_runOn_106 : decode cX9_runOn 106 = .ok (.dup2, 1) := by decide +kernel
theorem dX9_runOn_107 : decode cX9_runOn 107 = .ok (.laload, 1) := by decide +kernel
theorem dX9_runOn_108 : decode cX9_runOn 108 = .ok (.lload_n 3, 1) := by decide +kernel
theorem dX9_runOn_109 : decode cX9_runOn 109 = .ok (.aload_n 0, 1) := by decide +kernel
theorem dX9_runOn_110 : decode cX9_runOn 110 = .ok (.getfield 7, 3) := by decide +kernel
theorem dX9_runOn_113 : decode cX9_runOn 113 = .ok (.bipush 8, 2) := by decide +kernel
theorem dX9_runOn_115 : decode cX9_runOn 115 = .ok (.iload_n 2, 1) := by decide +kernel
theorem dX9_runOn_116 : decode cX9_runOn 116 = .ok (.imul, 1) := by decide +kernel
theorem dX9_runOn_117 : decode cX9_runOn 117 = .ok (.iconst 3, 1) := by decide +kernel
theorem dX9_runOn_118 : decode cX9_runOn 118 = .ok (.iadd, 1) := by decide +kernel
theorem dX9_runOn_119 : decode cX9_runOn 119 = .ok (.iaload, 1) := by decide +kernel
theorem dX9_runOn_120 : decode cX9_runOn 120 = .ok (.i2l, 1) := by decide +kernel
theorem dX9_runOn_121 : decode cX9_runOn 121 = .ok (.lmul, 1) := by decide +kernel
theorem dX9_runOn_122 : decode cX9_runOn 122 = .ok (.ldc2_w 135, 3) := by decide +kernel
theorem dX9_runOn_125 : decode cX9_runOn 125 = .ok (.ldiv, 1) := by decide +kernel
theorem dX9_runOn_126 : decode cX9_runOn 126 = .ok (.ladd, 1) := by decide +kernel
theorem dX9_runOn_127 : decode cX9_runOn 127 = .ok (.lastore, 1) := by decide +kernel
theorem dX9_runOn_128 : decode cX9_runOn 128 = .ok (.iinc 2 1, 3) := by decide +kernel
theorem dX9_runOn_131 : decode cX9_runOn 131 = .ok (.goto (-129), 3) := by decide +kernel
theorem dX9_runOn_134 : decode cX9_runOn 134 = .ok (.return_, 1) := by decide +kernel
theorem dX9_leftOf_0 : decode cX9_leftOf 0 = .ok (.aload_n 0, 1) := by decide +kernel
theorem dX9_leftOf_1 : decode cX9_leftOf 1 = .ok (.getfield 28, 3) := by decide +kernel
theorem dX9_leftOf_4 : decode cX9_leftOf 4 = .ok (.iload_n 1, 1) := by decide +kernel
theorem dX9_leftOf_5 : decode cX9_leftOf 5 = .ok (.laload, 1) := by decide +kernel
theorem dX9_leftOf_6 : decode cX9_leftOf 6 = .ok (.aload_n 0, 1) := by decide +kernel
theorem dX9_leftOf_7 : decode cX9_leftOf 7 = .ok (.getfield 32, 3) := by decide +kernel
theorem dX9_leftOf_10 : decode cX9_leftOf 10 = .ok (.iload_n 1, 1) := by decide +kernel
theorem dX9_leftOf_11 : decode cX9_leftOf 11 = .ok (.laload, 1) := by decide +kernel
theorem dX9_leftOf_12 : decode cX9_leftOf 12 = .ok (.ladd, 1) := by decide +kernel
theorem dX9_leftOf_13 : decode cX9_leftOf 13 = .ok (.lreturn, 1) := by decide +kernel
theorem dX9_isDead_0 : decode cX9_isDead 0 = .ok (.aload_n 0, 1) := by decide +kernel
theorem dX9_isDead_1 : decode cX9_isDead 1 = .ok (.getfield 7, 3) := by decide +kernel
theorem dX9_isDead_4 : decode cX9_isDead 4 = .ok (.bipush 8, 2) := by decide +kernel
theorem dX9_isDead_6 : decode cX9_isDead 6 = .ok (.iload_n 1, 1) := by decide +kernel
theorem dX9_isDead_7 : decode cX9_isDead 7 = .ok (.imul, 1) := by decide +kernel
theorem dX9_isDead_8 : decode cX9_isDead 8 = .ok (.iconst 2, 1) := by decide +kernel
theorem dX9_isDead_9 : decode cX9_isDead 9 = .ok (.iadd, 1) := by decide +kernel
theorem dX9_isDead_10 : decode cX9_isDead 10 = .ok (.iaload, 1) := by decide +kernel
theorem dX9_isDead_11 : decode cX9_isDead 11 = .ok (.aload_n 0, 1) := by decide +kernel
theorem dX9_isDead_12 : decode cX9_isDead 12 = .ok (.getfield 35, 3) := by decide +kernel
theorem dX9_isDead_15 : decode cX9_isDead 15 = .ok (.iload_n 1, 1) := by decide +kernel
theorem dX9_isDead_16 : decode cX9_isDead 16 = .ok (.iaload, 1) := by decide +kernel
theorem dX9_isDead_17 : decode cX9_isDead 17 = .ok (.if_icmp .le 17, 3) := by decide +kernel
theorem dX9_isDead_20 : decode cX9_isDead 20 = .ok (.aload_n 0, 1) := by decide +kernel
theorem dX9_isDead_21 : decode cX9_isDead 21 = .ok (.getfield 7, 3) := by decide +kernel
theorem dX9_isDead_24 : decode cX9_isDead 24 = .ok (.bipush 8, 2) := by decide +kernel
theorem dX9_isDead_26 : decode cX9_isDead 26 = .ok (.iload_n 1, 1) := by decide +kernel
theorem dX9_isDead_27 : decode cX9_isDead 27 = .ok (.imul, 1) := by decide +kernel
theorem dX9_isDead_28 : decode cX9_isDead 28 = .ok (.iconst 2, 1) := by decide +kernel
theorem dX9_isDead_29 : decode cX9_isDead 29 = .ok (.iadd, 1) := by decide +kernel
theorem dX9_isDead_30 : decode cX9_isDead 30 = .ok (.iaload, 1) := by decide +kernel
theorem dX9_isDead_31 : decode cX9_isDead 31 = .ok (.goto 9, 3) := by decide +kernel
theorem dX9_isDead_34 : decode cX9_isDead 34 = .ok (.aload_n 0, 1) := by decide +kernel
theorem dX9_isDead_35 : decode cX9_isDead 35 = .ok (.getfield 35, 3) := by decide +kernel
theorem dX9_isDead_38 : decode cX9_isDead 38 = .ok (.iload_n 1, 1) := by decide +kernel
theorem dX9_isDead_39 : decode cX9_isDead 39 = .ok (.iaload, 1) := by decide +kernel
theorem dX9_isDead_40 : decode cX9_isDead 40 = .ok (.istore_n 3, 1) := by decide +kernel
theorem dX9_isDead_41 : decode cX9_isDead 41 = .ok (.aload_n 0, 1) := by decide +kernel
theorem dX9_isDead_42 : decode cX9_isDead 42 = .ok (.iload_n 1, 1) := by decide +kernel
theorem dX9_isDead_43 : decode cX9_isDead 43 = .ok (.invokevirtual 137, 3) := by decide +kernel
theorem dX9_isDead_46 : decode cX9_isDead 46 = .ok (.lconst 0, 1) := by decide +kernel
theorem dX9_isDead_47 : decode cX9_isDead 47 = .ok (.lcmp, 1) := by decide +kernel
theorem dX9_isDead_48 : decode cX9_isDead 48 = .ok (.ifCond .le 40, 3) := by decide +kernel
theorem dX9_isDead_51 : decode cX9_isDead 51 = .ok (.aload_n 0, 1) := by decide +kernel
theorem dX9_isDead_52 : decode cX9_isDead 52 = .ok (.getfield 7, 3) := by decide +kernel
theorem dX9_isDead_55 : decode cX9_isDead 55 = .ok (.bipush 8, 2) := by decide +kernel
theorem dX9_isDead_57 : decode cX9_isDead 57 = .ok (.iload_n 1, 1) := by decide +kernel
theorem dX9_isDead_58 : decode cX9_isDead 58 = .ok (.imul, 1) := by decide +kernel
theorem dX9_isDead_59 : decode cX9_isDead 59 = .ok (.bipush 7, 2) := by decide +kernel
theorem dX9_isDead_61 : decode cX9_isDead 61 = .ok (.iadd, 1) := by decide +kernel
theorem dX9_isDead_62 : decode cX9_isDead 62 = .ok (.iaload, 1) := by decide +kernel
theorem dX9_isDead_63 : decode cX9_isDead 63 = .ok (.ifCond .le 25, 3) := by decide +kernel
theorem dX9_isDead_66 : decode cX9_isDead 66 = .ok (.iload_n 2, 1) := by decide +kernel
theorem dX9_isDead_67 : decode cX9_isDead 67 = .ok (.iload_n 3, 1) := by decide +kernel
theorem dX9_isDead_68 : decode cX9_isDead 68 = .ok (.isub, 1) := by decide +kernel
theorem dX9_isDead_69 : decode cX9_isDead 69 = .ok (.aload_n 0, 1) := by decide +kernel
theorem dX9_isDead_70 : decode cX9_isDead 70 = .ok (.getfield 7, 3) := by decide +kernel
theorem dX9_isDead_73 : decode cX9_isDead 73 = .ok (.bipush 8, 2) := by decide +kernel
theorem dX9_isDead_75 : decode cX9_isDead 75 = .ok (.iload_n 1, 1) := by decide +kernel
theorem dX9_isDead_76 : decode cX9_isDead 76 = .ok (.imul, 1) := by decide +kernel
theorem dX9_isDead_77 : decode cX9_isDead 77 = .ok (.bipush 7, 2) := by decide +kernel
theorem dX9_isDead_79 : decode cX9_isDead 79 = .ok (.iadd, 1) := by decide +kernel
theorem dX9_isDead_80 : decode cX9_isDead 80 = .ok (.iaload, 1) := by decide +kernel
theorem dX9_isDead_81 : decode cX9_isDead 81 = .ok (.if_icmp .le 7, 3) := by decide +kernel
theorem dX9_isDead_84 : decode cX9_isDead 84 = .ok (.iconst 1, 1) := by decide +kernel
theorem dX9_isDead_85 : decode cX9_isDead 85 = .ok (.goto 4, 3) := by decide +kernel
theorem dX9_isDead_88 : decode cX9_isDead 88 = .ok (.iconst 0, 1) := by decide +kernel
theorem dX9_isDead_89 : decode cX9_isDead 89 = .ok (.ireturn, 1) := by decide +kernel
theorem dX9_putTo_0 : decode cX9_putTo 0 = .ok (.aload_n 0, 1) := by decide +kernel
theorem dX9_putTo_1 : decode cX9_putTo 1 = .ok (.iload_n 1, 1) := by decide +kernel
theorem dX9_putTo_2 : decode cX9_putTo 2 = .ok (.bipush 115, 2) := by decide +kernel
theorem dX9_putTo_4 : decode cX9_putTo 4 = .ok (.invokevirtual 141, 3) := by decide +kernel
theorem dX9_putTo_7 : decode cX9_putTo 7 = .ok (.istore 6, 2) := by decide +kernel
theorem dX9_putTo_9 : decode cX9_putTo 9 = .ok (.lload_n 3, 1) := by decide +kernel
theorem dX9_putTo_10 : decode cX9_putTo 10 = .ok (.lstore 7, 2) := by decide +kernel
theorem dX9_putTo_12 : decode cX9_putTo 12 = .ok (.iconst 0, 1) := by decide +kernel
theorem dX9_putTo_13 : decode cX9_putTo 13 = .ok (.istore 9, 2) := by decide +kernel
theorem dX9_putTo_15 : decode cX9_putTo 15 = .ok (.iload 9, 2) := by decide +kernel
theorem dX9_putTo_17 : decode cX9_putTo 17 = .ok (.iconst 2, 1) := by decide +kernel
theorem dX9_putTo_18 : decode cX9_putTo 18 = .ok (.if_icmp .ge 129, 3) := by decide +kernel
theorem dX9_putTo_21 : decode cX9_putTo 21 = .ok (.iload 6, 2) := by decide +kernel
theorem dX9_putTo_23 : decode cX9_putTo 23 = .ok (.iload 9, 2) := by decide +kernel
theorem dX9_putTo_25 : decode cX9_putTo 25 = .ok (.ifCond .ne 7, 3) := by decide +kernel
theorem dX9_putTo_28 : decode cX9_putTo 28 = .ok (.iconst 1, 1) := by decide +kernel
theorem dX9_putTo_29 : decode cX9_putTo 29 = .ok (.goto 4, 3) := by decide +kernel
theorem dX9_putTo_32 : decode cX9_putTo 32 = .ok (.iconst 0, 1) := by decide +kernel
theorem dX9_putTo_33 : decode cX9_putTo 33 = .ok (.if_icmp .ne 7, 3) := by decide +kernel
theorem dX9_putTo_36 : decode cX9_putTo 36 = .ok (.iconst 1, 1) := by decide +kernel
theorem dX9_putTo_37 : decode cX9_putTo 37 = .ok (.goto 4, 3) := by decide +kernel
theorem dX9_putTo_40 : decode cX9_putTo 40 = .ok (.iconst 0, 1) := by decide +kernel
theorem dX9_putTo_41 : decode cX9_putTo 41 = .ok (.istore 10, 2) := by decide +kernel
theorem dX9_putTo_43 : decode cX9_putTo 43 = .ok (.iload 10, 2) := by decide +kernel
theorem dX9_putTo_45 : decode cX9_putTo 45 = .ok (.ifCond .eq 12, 3) := by decide +kernel
theorem dX9_putTo_48 : decode cX9_putTo 48 = .ok (.aload_n 0, 1) := by decide +kernel
theorem dX9_putTo_49 : decode cX9_putTo 49 = .ok (.getfield 28, 3) := by decide +kernel
theorem dX9_putTo_52 : decode cX9_putTo 52 = .ok (.iload_n 2, 1) := by decide +kernel
theorem dX9_putTo_53 : decode cX9_putTo 53 = .ok (.laload, 1) := by decide +kernel
theorem dX9_putTo_54 : decode cX9_putTo 54 = .ok (.goto 9, 3) := by decide +kernel
theorem dX9_putTo_57 : decode cX9_putTo 57 = .ok (.aload_n 0, 1) := by decide +kernel
theorem dX9_putTo_58 : decode cX9_putTo 58 = .ok (.getfield 32, 3) := by decide +kernel
theorem dX9_putTo_61 : decode cX9_putTo 61 = .ok (.iload_n 2, 1) := by decide +kernel
theorem dX9_putTo_62 : decode cX9_putTo 62 = .ok (.laload, 1) := by decide +kernel
theorem dX9_putTo_63 : decode cX9_putTo 63 = .ok (.lstore 11, 2) := by decide +kernel
theorem dX9_putTo_65 : decode cX9_putTo 65 = .ok (.lload 7, 2) := by decide +kernel
theorem dX9_putTo_67 : decode cX9_putTo 67 = .ok (.lload 11, 2) := by decide +kernel
theorem dX9_putTo_69 : decode cX9_putTo 69 = .ok (.lcmp, 1) := by decide +kernel
theorem dX9_putTo_70 : decode cX9_putTo 70 = .ok (.ifCond .ge 8, 3) := by decide +kernel
theorem dX9_putTo_73 : decode cX9_putTo 73 = .ok (.lload 7, 2) := by decide +kernel
theorem dX9_putTo_75 : decode cX9_putTo 75 = .ok (.goto 5, 3) := by decide +kernel
theorem dX9_putTo_78 : decode cX9_putTo 78 = .ok (.lload 11, 2) := by decide +kernel
theorem dX9_putTo_80 : decode cX9_putTo 80 = .ok (.lstore 13, 2) := by decide +kernel
theorem dX9_putTo_82 : decode cX9_putTo 82 = .ok (.iload 10, 2) := by decide +kernel
theorem dX9_putTo_84 : decode cX9_putTo 84 = .ok (.ifCond .eq 28, 3) := by decide +kernel
theorem dX9_putTo_87 : decode cX9_putTo 87 = .ok (.aload_n 0, 1) := by decide +kernel
theorem dX9_putTo_88 : decode cX9_putTo 88 = .ok (.getfield 28, 3) := by decide +kernel
theorem dX9_putTo_91 : decode cX9_putTo 91 = .ok (.iload_n 2, 1) := by decide +kernel
theorem dX9_putTo_92 : decode cX9_putTo 92 = .ok (.dup2, 1) := by decide +kernel
theorem dX9_putTo_93 : decode cX9_putTo 93 = .ok (.laload, 1) := by decide +kernel
theorem dX9_putTo_94 : decode cX9_putTo 94 = .ok (.lload 13, 2) := by decide +kernel
theorem dX9_putTo_96 : decode cX9_putTo 96 = .ok (.lsub, 1) := by decide +kernel
theorem dX9_putTo_97 : decode cX9_putTo 97 = .ok (.lastore, 1) := by decide +kernel
theorem dX9_putTo_98 : decode cX9_putTo 98 = .ok (.aload_n 0, 1) := by decide +kernel
theorem dX9_putTo_99 : decode cX9_putTo 99 = .ok (.getfield 41, 3) := by decide +kernel
theorem dX9_putTo_102 : decode cX9_putTo 102 = .ok (.iload_n 2, 1) := by decide +kernel
theorem dX9_putTo_103 : decode cX9_putTo 103 = .ok (.dup2, 1) := by decide +kernel
theorem dX9_putTo_104 : decode cX9_putTo 104 = .ok (.laload, 1) := by decide +kernel
theorem dX9_putTo_105 : decode cX9_putTo 105 = .ok (.lload 13, 2) := by decide +kernel
theorem dX9_putTo_107 : decode cX9_putTo 107 = .ok (.ladd, 1) := by decide +kernel
theorem dX9_putTo_108 : decode cX9_putTo 108 = .ok (.lastore, 1) := by decide +kernel
theorem dX9_putTo_109 : decode cX9_putTo 109 = .ok (.goto 25, 3) := by decide +kernel
theorem dX9_putTo_112 : decode cX9_putTo 112 = .ok (.aload_n 0, 1) := by decide +kernel
theorem dX9_putTo_113 : decode cX9_putTo 113 = .ok (.getfield 32, 3) := by decide +kernel
theorem dX9_putTo_116 : decode cX9_putTo 116 = .ok (.iload_n 2, 1) := by decide +kernel
theorem dX9_putTo_117 : decode cX9_putTo 117 = .ok (.dup2, 1) := by decide +kernel
theorem dX9_putTo_118 : decode cX9_putTo 118 = .ok (.laload, 1) := by decide +kernel
theorem dX9_putTo_119 : decode cX9_putTo 119 = .ok (.lload 13, 2) := by decide +kernel
theorem dX9_putTo_121 : decode cX9_putTo 121 = .ok (.lsub, 1) := by decide +kernel
theorem dX9_putTo_122 : decode cX9_putTo 122 = .ok (.lastore, 1) := by decide +kernel
theorem dX9_putTo_123 : decode cX9_putTo 123 = .ok (.aload_n 0, 1) := by decide +kernel
theorem dX9_putTo_124 : decode cX9_putTo 124 = .ok (.getfield 44, 3) := by decide +kernel
theorem dX9_putTo_127 : decode cX9_putTo 127 = .ok (.iload_n 2, 1) := by decide +kernel
theorem dX9_putTo_128 : decode cX9_putTo 128 = .ok (.dup2, 1) := by decide +kernel
theorem dX9_putTo_129 : decode cX9_putTo 129 = .ok (.laload, 1) := by decide +kernel
theorem dX9_putTo_130 : decode cX9_putTo 130 = .ok (.lload 13, 2) := by decide +kernel
theorem dX9_putTo_132 : decode cX9_putTo 132 = .ok (.ladd, 1) := by decide +kernel
theorem dX9_putTo_133 : decode cX9_putTo 133 = .ok (.lastore, 1) := by decide +kernel
theorem dX9_putTo_134 : decode cX9_putTo 134 = .ok (.lload 7, 2) := by decide +kernel
theorem dX9_putTo_136 : decode cX9_putTo 136 = .ok (.lload 13, 2) := by decide +kernel
theorem dX9_putTo_138 : decode cX9_putTo 138 = .ok (.lsub, 1) := by decide +kernel
theorem dX9_putTo_139 : decode cX9_putTo 139 = .ok (.lstore 7, 2) := by decide +kernel
theorem dX9_putTo_141 : decode cX9_putTo 141 = .ok (.iinc 9 1, 3) := by decide +kernel
theorem dX9_putTo_144 : decode cX9_putTo 144 = .ok (.goto (-129), 3) := by decide +kernel
theorem dX9_putTo_147 : decode cX9_putTo 147 = .ok (.lload_n 3, 1) := by decide +kernel
theorem dX9_putTo_148 : decode cX9_putTo 148 = .ok (.lload 7, 2) := by decide +kernel
theorem dX9_putTo_150 : decode cX9_putTo 150 = .ok (.lsub, 1) := by decide +kernel
theorem dX9_putTo_151 : decode cX9_putTo 151 = .ok (.lstore 9, 2) := by decide +kernel
theorem dX9_putTo_153 : decode cX9_putTo 153 = .ok (.lload 9, 2) := by decide +kernel
theorem dX9_putTo_155 : decode cX9_putTo 155 = .ok (.lconst 0, 1) := by decide +kernel
theorem dX9_putTo_156 : decode cX9_putTo 156 = .ok (.lcmp, 1) := by decide +kernel
theorem dX9_putTo_157 : decode cX9_putTo 157 = .ok (.ifCond .le 46, 3) := by decide +kernel
theorem dX9_putTo_160 : decode cX9_putTo 160 = .ok (.aload_n 0, 1) := by decide +kernel
theorem dX9_putTo_161 : decode cX9_putTo 161 = .ok (.getfield 38, 3) := by decide +kernel
theorem dX9_putTo_164 : decode cX9_putTo 164 = .ok (.iload_n 2, 1) := by decide +kernel
theorem dX9_putTo_165 : decode cX9_putTo 165 = .ok (.aload_n 0, 1) := by decide +kernel
theorem dX9_putTo_166 : decode cX9_putTo 166 = .ok (.getfield 47, 3) := by decide +kernel
theorem dX9_putTo_169 : decode cX9_putTo 169 = .ok (.iload_n 2, 1) := by decide +kernel
theorem dX9_putTo_170 : decode cX9_putTo 170 = .ok (.baload, 1) := by decide +kernel
theorem dX9_putTo_171 : decode cX9_putTo 171 = .ok (.ifCond .eq 17, 3) := by decide +kernel
theorem dX9_putTo_174 : decode cX9_putTo 174 = .ok (.aload_n 0, 1) := by decide +kernel
theorem dX9_putTo_175 : decode cX9_putTo 175 = .ok (.getfield 38, 3) := by decide +kernel
theorem dX9_putTo_178 : decode cX9_putTo 178 = .ok (.iload_n 2, 1) := by decide +kernel
theorem dX9_putTo_179 : decode cX9_putTo 179 = .ok (.iaload, 1) := by decide +kernel
theorem dX9_putTo_180 : decode cX9_putTo 180 = .ok (.ifCond .ge 8, 3) := by decide +kernel
theorem dX9_putTo_183 : decode cX9_putTo 183 = .ok (.iload 5, 2) := by decide +kernel
theorem dX9_putTo_185 : decode cX9_putTo 185 = .ok (.goto 9, 3) := by decide +kernel
theorem dX9_putTo_188 : decode cX9_putTo 188 = .ok (.aload_n 0, 1) := by decide +kernel
theorem dX9_putTo_189 : decode cX9_putTo 189 = .ok (.getfield 38, 3) := by decide +kernel
theorem dX9_putTo_192 : decode cX9_putTo 192 = .ok (.iload_n 2, 1) := by decide +kernel
theorem dX9_putTo_193 : decode cX9_putTo 193 = .ok (.iaload, 1) := by decide +kernel
theorem dX9_putTo_194 : decode cX9_putTo 194 = .ok (.iastore, 1) := by decide +kernel
theorem dX9_putTo_195 : decode cX9_putTo 195 = .ok (.aload_n 0, 1) := by decide +kernel
theorem dX9_putTo_196 : decode cX9_putTo 196 = .ok (.getfield 35, 3) := by decide +kernel
theorem dX9_putTo_199 : decode cX9_putTo 199 = .ok (.iload_n 2, 1) := by decide +kernel
theorem dX9_putTo_200 : decode cX9_putTo 200 = .ok (.iload 5, 2) := by decide +kernel
theorem dX9_putTo_202 : decode cX9_putTo 202 = .ok (.iastore, 1) := by decide +kernel
theorem dX9_putTo_203 : decode cX9_putTo 203 = .ok (.lload 9, 2) := by decide +kernel
theorem dX9_putTo_205 : decode cX9_putTo 205 = .ok (.lreturn, 1) := by decide +kernel
theorem dX9_compare_0 : decode cX9_compare 0 = .ok (.iconst 0, 1) := by decide +kernel
theorem dX9_compare_1 : decode cX9_compare 1 = .ok (.istore 5, 2) := by decide +kernel
theorem dX9_compare_3 : decode cX9_compare 3 = .ok (.iload 5, 2) := by decide +kernel
theorem dX9_compare_5 : decode cX9_compare 5 = .ok (.aload_n 0, 1) := by decide +kernel
theorem dX9_compare_6 : decode cX9_compare 6 = .ok (.getfield 22, 3) := by decide +kernel
theorem dX9_compare_9 : decode cX9_compare 9 = .ok (.iload_n 1, 1) := by decide +kernel
theorem dX9_compare_10 : decode cX9_compare 10 = .ok (.iaload, 1) := by decide +kernel
theorem dX9_compare_11 : decode cX9_compare 11 = .ok (.if_icmp .ge 290, 3) := by decide +kernel
theorem dX9_compare_14 : decode cX9_compare 14 = .ok (.aload_n 0, 1) := by decide +kernel
theorem dX9_compare_15 : decode cX9_compare 15 = .ok (.getfield 19, 3) := by decide +kernel
theorem dX9_compare_18 : decode cX9_compare 18 = .ok (.bipush 12, 2) := by decide +kernel
theorem dX9_compare_20 : decode cX9_compare 20 = .ok (.iload_n 1, 1) := by decide +kernel
theorem dX9_compare_21 : decode cX9_compare 21 = .ok (.imul, 1) := by decide +kernel
theorem dX9_compare_22 : decode cX9_compare 22 = .ok (.iload 5, 2) := by decide +kernel
theorem dX9_compare_24 : decode cX9_compare 24 = .ok (.iadd, 1) := by decide +kernel
theorem dX9_compare_25 : decode cX9_compare 25 = .ok (.iaload, 1) := by decide +kernel
theorem dX9_compare_26 : decode cX9_compare 26 = .ok (.istore 6, 2) := by decide +kernel
theorem dX9_compare_28 : decode cX9_compare 28 = .ok (.lconst 0, 1) := by decide +kernel
theorem dX9_compare_29 : decode cX9_compare 29 = .ok (.lstore 7, 2) := by decide +kernel
theorem dX9_compare_31 : decode cX9_compare 31 = .ok (.lconst 0, 1) := by decide +kernel
theorem dX9_compare_32 : decode cX9_compare 32 = .ok (.lstore 9, 2) := by decide +kernel
theorem dX9_compare_34 : decode cX9_compare 34 = .ok (.iload 6, 2) := by decide +kernel
theorem dX9_compare_36 : decode cX9_compare 36 = .ok (.bipush 100, 2) := by decide +kernel
theorem dX9_compare_38 : decode cX9_compare 38 = .ok (.if_icmp .ne 52, 3) := by decide +kernel
theorem dX9_compare_41 : decode cX9_compare 41 = .ok (.aload_n 0, 1) := by decide +kernel
theorem dX9_compare_42 : decode cX9_compare 42 = .ok (.getfield 7, 3) := by decide +kernel
theorem dX9_compare_45 : decode cX9_compare 45 = .ok (.bipush 8, 2) := by decide +kernel
theorem dX9_compare_47 : decode cX9_compare 47 = .ok (.iload_n 2, 1) := by decide +kernel
theorem dX9_compare_48 : decode cX9_compare 48 = .ok (.imul, 1) := by decide +kernel
theorem dX9_compare_49 : decode cX9_compare 49 = .ok (.iconst 2, 1) := by decide +kernel
theorem dX9_compare_50 : decode cX9_compare 50 = .ok (.iadd, 1) := by decide +kernel
theorem dX9_compare_51 : decode cX9_compare 51 = .ok (.iaload, 1) := by decide +kernel
theorem dX9_compare_52 : decode cX9_compare 52 = .ok (.iload 4, 2) := by decide +kernel
theorem dX9_compare_54 : decode cX9_compare 54 = .ok (.if_icmp .gt 7, 3) := by decide +kernel
theorem dX9_compare_57 : decode cX9_compare 57 = .ok (.lconst 0, 1) := by decide +kernel
theorem dX9_compare_58 : decode cX9_compare 58 = .ok (.goto 4, 3) := by decide +kernel
theorem dX9_compare_61 : decode cX9_compare 61 = .ok (.lconst 1, 1) := by decide +kernel
theorem dX9_compare_62 : decode cX9_compare 62 = .ok (.lstore 7, 2) := by decide +kernel
theorem dX9_compare_64 : decode cX9_compare 64 = .ok (.aload_n 0, 1) := by decide +kernel
theorem dX9_compare_65 : decode cX9_compare 65 = .ok (.getfield 7, 3) := by decide +kernel
theorem dX9_compare_68 : decode cX9_compare 68 = .ok (.bipush 8, 2) := by decide +kernel
theorem dX9_compare_70 : decode cX9_compare 70 = .ok (.iload_n 3, 1) := by decide +kernel
theorem dX9_compare_71 : decode cX9_compare 71 = .ok (.imul, 1) := by decide +kernel
theorem dX9_compare_72 : decode cX9_compare 72 = .ok (.iconst 2, 1) := by decide +kernel
theorem dX9_compare_73 : decode cX9_compare 73 = .ok (.iadd, 1) := by decide +kernel
theorem dX9_compare_74 : decode cX9_compare 74 = .ok (.iaload, 1) := by decide +kernel
theorem dX9_compare_75 : decode cX9_compare 75 = .ok (.iload 4, 2) := by decide +kernel
theorem dX9_compare_77 : decode cX9_compare 77 = .ok (.if_icmp .gt 7, 3) := by decide +kernel
theorem dX9_compare_80 : decode cX9_compare 80 = .ok (.lconst 0, 1) := by decide +kernel
theorem dX9_compare_81 : decode cX9_compare 81 = .ok (.goto 4, 3) := by decide +kernel
theorem dX9_compare_84 : decode cX9_compare 84 = .ok (.lconst 1, 1) := by decide +kernel
theorem dX9_compare_85 : decode cX9_compare 85 = .ok (.lstore 9, 2) := by decide +kernel
theorem dX9_compare_87 : decode cX9_compare 87 = .ok (.goto 186, 3) := by decide +kernel
theorem dX9_compare_90 : decode cX9_compare 90 = .ok (.iload 6, 2) := by decide +kernel
theorem dX9_compare_92 : decode cX9_compare 92 = .ok (.bipush 104, 2) := by decide +kernel
theorem dX9_compare_94 : decode cX9_compare 94 = .ok (.if_icmp .ne 36, 3) := by decide +kernel
theorem dX9_compare_97 : decode cX9_compare 97 = .ok (.aload_n 0, 1) := by decide +kernel
theorem dX9_compare_98 : decode cX9_compare 98 = .ok (.getfield 7, 3) := by decide +kernel
theorem dX9_compare_101 : decode cX9_compare 101 = .ok (.bipush 8, 2) := by decide +kernel
theorem dX9_compare_103 : decode cX9_compare 103 = .ok (.iload_n 2, 1) := by decide +kernel
theorem dX9_compare_104 : decode cX9_compare 104 = .ok (.imul, 1) := by decide +kernel
theorem dX9_compare_105 : decode cX9_compare 105 = .ok (.iconst 3, 1) := by decide +kernel
theorem dX9_compare_106 : decode cX9_compare 106 = .ok (.iadd, 1) := by decide +kernel
theorem dX9_compare_107 : decode cX9_compare 107 = .ok (.iaload, 1) := by decide +kernel
theorem dX9_compare_108 : decode cX9_compare 108 = .ok (.ineg, 1) := by decide +kernel
theorem dX9_compare_109 : decode cX9_compare 109 = .ok (.i2l, 1) := by decide +kernel
theorem dX9_compare_110 : decode cX9_compare 110 = .ok (.lstore 7, 2) := by decide +kernel
theorem dX9_compare_112 : decode cX9_compare 112 = .ok (.aload_n 0, 1) := by decide +kernel
theorem dX9_compare_113 : decode cX9_compare 113 = .ok (.getfield 7, 3) := by decide +kernel
theorem dX9_compare_116 : decode cX9_compare 116 = .ok (.bipush 8, 2) := by decide +kernel
theorem dX9_compare_118 : decode cX9_compare 118 = .ok (.iload_n 3, 1) := by decide +kernel
theorem dX9_compare_119 : decode cX9_compare 119 = .ok (.imul, 1) := by decide +kernel
theorem dX9_compare_120 : decode cX9_compare 120 = .ok (.iconst 3, 1) := by decide +kernel
theorem dX9_compare_121 : decode cX9_compare 121 = .ok (.iadd, 1) := by decide +kernel
theorem dX9_compare_122 : decode cX9_compare 122 = .ok (.iaload, 1) := by decide +kernel
theorem dX9_compare_123 : decode cX9_compare 123 = .ok (.ineg, 1) := by decide +kernel
theorem dX9_compare_124 : decode cX9_compare 124 = .ok (.i2l, 1) := by decide +kernel
theorem dX9_compare_125 : decode cX9_compare 125 = .ok (.lstore 9, 2) := by decide +kernel
theorem dX9_compare_127 : decode cX9_compare 127 = .ok (.goto 146, 3) := by decide +kernel
theorem dX9_compare_130 : decode cX9_compare 130 = .ok (.iload 6, 2) := by decide +kernel
theorem dX9_compare_132 : decode cX9_compare 132 = .ok (.bipush 117, 2) := by decide +kernel
theorem dX9_compare_134 : decode cX9_compare 134 = .ok (.if_icmp .ne 78, 3) := by decide +kernel
theorem dX9_compare_137 : decode cX9_compare 137 = .ok (.aload_n 0, 1) := by decide +kernel
theorem dX9_compare_138 : decode cX9_compare 138 = .ok (.getfield 7, 3) := by decide +kernel
theorem dX9_compare_141 : decode cX9_compare 141 = .ok (.bipush 8, 2) := by decide +kernel
theorem dX9_compare_143 : decode cX9_compare 143 = .ok (.iload_n 2, 1) := by decide +kernel
theorem dX9_compare_144 : decode cX9_compare 144 = .ok (.imul, 1) := by decide +kernel
theorem dX9_compare_145 : decode cX9_compare 145 = .ok (.iconst 5, 1) := by decide +kernel
theorem dX9_compare_146 : decode cX9_compare 146 = .ok (.iadd, 1) := by decide +kernel
theorem dX9_compare_147 : decode cX9_compare 147 = .ok (.iaload, 1) := by decide +kernel
theorem dX9_compare_148 : decode cX9_compare 148 = .ok (.ifCond .ge 22, 3) := by decide +kernel
theorem dX9_compare_151 : decode cX9_compare 151 = .ok (.aload_n 0, 1) := by decide +kernel
theorem dX9_compare_152 : decode cX9_compare 152 = .ok (.getfield 7, 3) := by decide +kernel
theorem dX9_compare_155 : decode cX9_compare 155 = .ok (.bipush 8, 2) := by decide +kernel
theorem dX9_compare_157 : decode cX9_compare 157 = .ok (.iload_n 2, 1) := by decide +kernel
theorem dX9_compare_158 : decode cX9_compare 158 = .ok (.imul, 1) := by decide +kernel
theorem dX9_compare_159 : decode cX9_compare 159 = .ok (.bipush 6, 2) := by decide +kernel
theorem dX9_compare_161 : decode cX9_compare 161 = .ok (.iadd, 1) := by decide +kernel
theorem dX9_compare_162 : decode cX9_compare 162 = .ok (.iaload, 1) := by decide +kernel
theorem dX9_compare_163 : decode cX9_compare 163 = .ok (.ifCond .ne 7, 3) := by decide +kernel
theorem dX9_compare_166 : decode cX9_compare 166 = .ok (.lconst 0, 1) := by decide +kernel
theorem dX9_compare_167 : decode cX9_compare 167 = .ok (.goto 4, 3) := by decide +kernel
theorem dX9_compare_170 : decode cX9_compare 170 = .ok (.lconst 1, 1) := by decide +kernel
theorem dX9_compare_171 : decode cX9_compare 171 = .ok (.lstore 7, 2) := by decide +kernel
theorem dX9_compare_173 : decode cX9_compare 173 = .ok (.aload_n 0, 1) := by decide +kernel
theorem dX9_compare_174 : decode cX9_compare 174 = .ok (.getfield 7, 3) := by decide +kernel
theorem dX9_compare_177 : decode cX9_compare 177 = .ok (.bipush 8, 2) := by decide +kernel
theorem dX9_compare_179 : decode cX9_compare 179 = .ok (.iload_n 3, 1) := by decide +kernel
theorem dX9_compare_180 : decode cX9_compare 180 = .ok (.imul, 1) := by decide +kernel
theorem dX9_compare_181 : decode cX9_compare 181 = .ok (.iconst 5, 1) := by decide +kernel
theorem dX9_compare_182 : decode cX9_compare 182 = .ok (.iadd, 1) := by decide +kernel
theorem dX9_compare_183 : decode cX9_compare 183 = .ok (.iaload, 1) := by decide +kernel
theorem dX9_compare_184 : decode cX9_compare 184 = .ok (.ifCond .ge 22, 3) := by decide +kernel
theorem dX9_compare_187 : decode cX9_compare 187 = .ok (.aload_n 0, 1) := by decide +kernel
theorem dX9_compare_188 : decode cX9_compare 188 = .ok (.getfield 7, 3) := by decide +kernel
theorem dX9_compare_191 : decode cX9_compare 191 = .ok (.bipush 8, 2) := by decide +kernel
theorem dX9_compare_193 : decode cX9_compare 193 = .ok (.iload_n 3, 1) := by decide +kernel
theorem dX9_compare_194 : decode cX9_compare 194 = .ok (.imul, 1) := by decide +kernel
theorem dX9_compare_195 : decode cX9_compare 195 = .ok (.bipush 6, 2) := by decide +kernel
theorem dX9_compare_197 : decode cX9_compare 197 = .ok (.iadd, 1) := by decide +kernel
theorem dX9_compare_198 : decode cX9_compare 198 = .ok (.iaload, 1) := by decide +kernel
theorem dX9_compare_199 : decode cX9_compare 199 = .ok (.ifCond .ne 7, 3) := by decide +kernel
theorem dX9_compare_202 : decode cX9_compare 202 = .ok (.lconst 0, 1) := by decide +kernel
theorem dX9_compare_203 : decode cX9_compare 203 = .ok (.goto 4, 3) := by decide +kernel
theorem dX9_compare_206 : decode cX9_compare 206 = .ok (.lconst 1, 1) := by decide +kernel
theorem dX9_compare_207 : decode cX9_compare 207 = .ok (.lstore 9, 2) := by decide +kernel
theorem dX9_compare_209 : decode cX9_compare 209 = .ok (.goto 64, 3) := by decide +kernel
theorem dX9_compare_212 : decode cX9_compare 212 = .ok (.iload 6, 2) := by decide +kernel
theorem dX9_compare_214 : decode cX9_compare 214 = .ok (.bipush 111, 2) := by decide +kernel
theorem dX9_compare_216 : decode cX9_compare 216 = .ok (.if_icmp .ne 34, 3) := by decide +kernel
theorem dX9_compare_219 : decode cX9_compare 219 = .ok (.aload_n 0, 1) := by decide +kernel
theorem dX9_compare_220 : decode cX9_compare 220 = .ok (.getfield 7, 3) := by decide +kernel
theorem dX9_compare_223 : decode cX9_compare 223 = .ok (.bipush 8, 2) := by decide +kernel
theorem dX9_compare_225 : decode cX9_compare 225 = .ok (.iload_n 2, 1) := by decide +kernel
theorem dX9_compare_226 : decode cX9_compare 226 = .ok (.imul, 1) := by decide +kernel
theorem dX9_compare_227 : decode cX9_compare 227 = .ok (.iconst 1, 1) := by decide +kernel
theorem dX9_compare_228 : decode cX9_compare 228 = .ok (.iadd, 1) := by decide +kernel
theorem dX9_compare_229 : decode cX9_compare 229 = .ok (.iaload, 1) := by decide +kernel
theorem dX9_compare_230 : decode cX9_compare 230 = .ok (.i2l, 1) := by decide +kernel
theorem dX9_compare_231 : decode cX9_compare 231 = .ok (.lstore 7, 2) := by decide +kernel
theorem dX9_compare_233 : decode cX9_compare 233 = .ok (.aload_n 0, 1) := by decide +kernel
theorem dX9_compare_234 : decode cX9_compare 234 = .ok (.getfield 7, 3) := by decide +kernel
theorem dX9_compare_237 : decode cX9_compare 237 = .ok (.bipush 8, 2) := by decide +kernel
theorem dX9_compare_239 : decode cX9_compare 239 = .ok (.iload_n 3, 1) := by decide +kernel
theorem dX9_compare_240 : decode cX9_compare 240 = .ok (.imul, 1) := by decide +kernel
theorem dX9_compare_241 : decode cX9_compare 241 = .ok (.iconst 1, 1) := by decide +kernel
theorem dX9_compare_242 : decode cX9_compare 242 = .ok (.iadd, 1) := by decide +kernel
theorem dX9_compare_243 : decode cX9_compare 243 = .ok (.iaload, 1) := by decide +kernel
theorem dX9_compare_244 : decode cX9_compare 244 = .ok (.i2l, 1) := by decide +kernel
theorem dX9_compare_245 : decode cX9_compare 245 = .ok (.lstore 9, 2) := by decide +kernel
theorem dX9_compare_247 : decode cX9_compare 247 = .ok (.goto 26, 3) := by decide +kernel
theorem dX9_compare_250 : decode cX9_compare 250 = .ok (.iload 6, 2) := by decide +kernel
theorem dX9_compare_252 : decode cX9_compare 252 = .ok (.bipush 108, 2) := by decide +kernel
theorem dX9_compare_254 : decode cX9_compare 254 = .ok (.if_icmp .ne 19, 3) := by decide +kernel
theorem dX9_compare_257 : decode cX9_compare 257 = .ok (.aload_n 0, 1) := by decide +kernel
theorem dX9_compare_258 : decode cX9_compare 258 = .ok (.iload_n 2, 1) := by decide +kernel
theorem dX9_compare_259 : decode cX9_compare 259 = .ok (.invokevirtual 137, 3) := by decide +kernel
theorem dX9_compare_262 : decode cX9_compare 262 = .ok (.lneg, 1) := by decide +kernel
theorem dX9_compare_263 : decode cX9_compare 263 = .ok (.lstore 7, 2) := by decide +kernel
theorem dX9_compare_265 : decode cX9_compare 265 = .ok (.aload_n 0, 1) := by decide +kernel
theorem dX9_compare_266 : decode cX9_compare 266 = .ok (.iload_n 3, 1) := by decide +kernel
theorem dX9_compare_267 : decode cX9_compare 267 = .ok (.invokevirtual 137, 3) := by decide +kernel
theorem dX9_compare_270 : decode cX9_compare 270 = .ok (.lneg, 1) := by decide +kernel
theorem dX9_compare_271 : decode cX9_compare 271 = .ok (.lstore 9, 2) := by decide +kernel
theorem dX9_compare_273 : decode cX9_compare 273 = .ok (.lload 7, 2) := by decide +kernel
theorem dX9_compare_275 : decode cX9_compare 275 = .ok (.lload 9, 2) := by decide +kernel
theorem dX9_compare_277 : decode cX9_compare 277 = .ok (.lcmp, 1) := by decide +kernel
theorem dX9_compare_278 : decode cX9_compare 278 = .ok (.ifCond .eq 17, 3) := by decide +kernel
theorem dX9_compare_281 : decode cX9_compare 281 = .ok (.lload 7, 2) := by decide +kernel
theorem dX9_compare_283 : decode cX9_compare 283 = .ok (.lload 9, 2) := by decide +kernel
theorem dX9_compare_285 : decode cX9_compare 285 = .ok (.lcmp, 1) := by decide +kernel
theorem dX9_compare_286 : decode cX9_compare 286 = .ok (.ifCond .ge 7, 3) := by decide +kernel
theorem dX9_compare_289 : decode cX9_compare 289 = .ok (.iconst (-1), 1) := by decide +kernel
theorem dX9_compare_290 : decode cX9_compare 290 = .ok (.goto 4, 3) := by decide +kernel
theorem dX9_compare_293 : decode cX9_compare 293 = .ok (.iconst 1, 1) := by decide +kernel
theorem dX9_compare_294 : decode cX9_compare 294 = .ok (.ireturn, 1) := by decide +kernel
theorem dX9_compare_295 : decode cX9_compare 295 = .ok (.iinc 5 1, 3) := by decide +kernel
theorem dX9_compare_298 : decode cX9_compare 298 = .ok (.goto (-295), 3) := by decide +kernel
theorem dX9_compare_301 : decode cX9_compare 301 = .ok (.iconst 0, 1) := by decide +kernel
theorem dX9_compare_302 : decode cX9_compare 302 = .ok (.ireturn, 1) := by decide +kernel
theorem dX9_findOrder_0 : decode cX9_findOrder 0 = .ok (.iconst 0, 1) := by decide +kernel
theorem dX9_findOrder_1 : decode cX9_findOrder 1 = .ok (.istore_n 3, 1) := by decide +kernel
theorem dX9_findOrder_2 : decode cX9_findOrder 2 = .ok (.iconst 0, 1) := by decide +kernel
theorem dX9_findOrder_3 : decode cX9_findOrder 3 = .ok (.istore 4, 2) := by decide +kernel
theorem dX9_findOrder_5 : decode cX9_findOrder 5 = .ok (.iload 4, 2) := by decide +kernel
theorem dX9_findOrder_7 : decode cX9_findOrder 7 = .ok (.aload_n 0, 1) := by decide +kernel
theorem dX9_findOrder_8 : decode cX9_findOrder 8 = .ok (.getfield 87, 3) := by decide +kernel
theorem dX9_findOrder_11 : decode cX9_findOrder 11 = .ok (.if_icmp .ge 102, 3) := by decide +kernel
theorem dX9_findOrder_14 : decode cX9_findOrder 14 = .ok (.aload_n 0, 1) := by decide +kernel
theorem dX9_findOrder_15 : decode cX9_findOrder 15 = .ok (.iload 4, 2) := by decide +kernel
theorem dX9_findOrder_17 : decode cX9_findOrder 17 = .ok (.invokevirtual 137, 3) := by decide +kernel
theorem dX9_findOrder_20 : decode cX9_findOrder 20 = .ok (.lconst 0, 1) := by decide +kernel
theorem dX9_findOrder_21 : decode cX9_findOrder 21 = .ok (.lcmp, 1) := by decide +kernel
theorem dX9_findOrder_22 : decode cX9_findOrder 22 = .ok (.ifCond .le 85, 3) := by decide +kernel
theorem dX9_findOrder_25 : decode cX9_findOrder 25 = .ok (.aload_n 0, 1) := by decide +kernel
theorem dX9_findOrder_26 : decode cX9_findOrder 26 = .ok (.iload_n 1, 1) := by decide +kernel
theorem dX9_findOrder_27 : decode cX9_findOrder 27 = .ok (.bipush 120, 2) := by decide +kernel
theorem dX9_findOrder_29 : decode cX9_findOrder 29 = .ok (.invokevirtual 141, 3) := by decide +kernel
theorem dX9_findOrder_32 : decode cX9_findOrder 32 = .ok (.ifCond .eq 13, 3) := by decide +kernel
theorem dX9_findOrder_35 : decode cX9_findOrder 35 = .ok (.aload_n 0, 1) := by decide +kernel
theorem dX9_findOrder_36 : decode cX9_findOrder 36 = .ok (.getfield 47, 3) := by decide +kernel
theorem dX9_findOrder_39 : decode cX9_findOrder 39 = .ok (.iload 4, 2) := by decide +kernel
theorem dX9_findOrder_41 : decode cX9_findOrder 41 = .ok (.baload, 1) := by decide +kernel
theorem dX9_findOrder_42 : decode cX9_findOrder 42 = .ok (.ifCond .ne 65, 3) := by decide +kernel
theorem dX9_findOrder_45 : decode cX9_findOrder 45 = .ok (.iload_n 3, 1) := by decide +kernel
theorem dX9_findOrder_46 : decode cX9_findOrder 46 = .ok (.istore 5, 2) := by decide +kernel
theorem dX9_findOrder_48 : decode cX9_findOrder 48 = .ok (.iload 5, 2) := by decide +kernel
theorem dX9_findOrder_50 : decode cX9_findOrder 50 = .ok (.ifCond .le 45, 3) := by decide +kernel
theorem dX9_findOrder_53 : decode cX9_findOrder 53 = .ok (.aload_n 0, 1) := by decide +kernel
theorem dX9_findOrder_54 : decode cX9_findOrder 54 = .ok (.iload_n 1, 1) := by decide +kernel
theorem dX9_findOrder_55 : decode cX9_findOrder 55 = .ok (.iload 4, 2) := by decide +kernel
theorem dX9_findOrder_57 : decode cX9_findOrder 57 = .ok (.aload_n 0, 1) := by decide +kernel
theorem dX9_findOrder_58 : decode cX9_findOrder 58 = .ok (.getfield 51, 3) := by decide +kernel
theorem dX9_findOrder_61 : decode cX9_findOrder 61 = .ok (.iload 5, 2) := by decide +kernel
theorem dX9_findOrder_63 : decode cX9_findOrder 63 = .ok (.iconst 1, 1) := by decide +kernel
theorem dX9_findOrder_64 : decode cX9_findOrder 64 = .ok (.isub, 1) := by decide +kernel
theorem dX9_findOrder_65 : decode cX9_findOrder 65 = .ok (.iaload, 1) := by decide +kernel
theorem dX9_findOrder_66 : decode cX9_findOrder 66 = .ok (.iload_n 2, 1) := by decide +kernel
theorem dX9_findOrder_67 : decode cX9_findOrder 67 = .ok (.invokevirtual 145, 3) := by decide +kernel
theorem dX9_findOrder_70 : decode cX9_findOrder 70 = .ok (.ifCond .ge 25, 3) := by decide +kernel
theorem dX9_findOrder_73 : decode cX9_findOrder 73 = .ok (.aload_n 0, 1) := by decide +kernel
theorem dX9_findOrder_74 : decode cX9_findOrder 74 = .ok (.getfield 51, 3) := by decide +kernel
theorem dX9_findOrder_77 : decode cX9_findOrder 77 = .ok (.iload 5, 2) := by decide +kernel
theorem dX9_findOrder_79 : decode cX9_findOrder 79 = .ok (.aload_n 0, 1) := by decide +kernel
theorem dX9_findOrder_80 : decode cX9_findOrder 80 = .ok (.getfield 51, 3) := by decide +kernel
theorem dX9_findOrder_83 : decode cX9_findOrder 83 = .ok (.iload 5, 2) := by decide +kernel
theorem dX9_findOrder_85 : decode cX9_findOrder 85 = .ok (.iconst 1, 1) := by decide +kernel
theorem dX9_findOrder_86 : decode cX9_findOrder 86 = .ok (.isub, 1) := by decide +kernel
theorem dX9_findOrder_87 : decode cX9_findOrder 87 = .ok (.iaload, 1) := by decide +kernel
theorem dX9_findOrder_88 : decode cX9_findOrder 88 = .ok (.iastore, 1) := by decide +kernel
theorem dX9_findOrder_89 : decode cX9_findOrder 89 = .ok (.iinc 5 (-1), 3) := by decide +kernel
theorem dX9_findOrder_92 : decode cX9_findOrder 92 = .ok (.goto (-44), 3) := by decide +kernel
theorem dX9_findOrder_95 : decode cX9_findOrder 95 = .ok (.aload_n 0, 1) := by decide +kernel
theorem dX9_findOrder_96 : decode cX9_findOrder 96 = .ok (.getfield 51, 3) := by decide +kernel
theorem dX9_findOrder_99 : decode cX9_findOrder 99 = .ok (.iload 5, 2) := by decide +kernel
theorem dX9_findOrder_101 : decode cX9_findOrder 101 = .ok (.iload 4, 2) := by decide +kernel
theorem dX9_findOrder_103 : decode cX9_findOrder 103 = .ok (.iastore, 1) := by decide +kernel
theorem dX9_findOrder_104 : decode cX9_findOrder 104 = .ok (.iinc 3 1, 3) := by decide +kernel
theorem dX9_findOrder_107 : decode cX9_findOrder 107 = .ok (.iinc 4 1, 3) := by decide +kernel
theorem dX9_findOrder_110 : decode cX9_findOrder 110 = .ok (.goto (-105), 3) := by decide +kernel
theorem dX9_findOrder_113 : decode cX9_findOrder 113 = .ok (.iload_n 3, 1) := by decide +kernel
theorem dX9_findOrder_114 : decode cX9_findOrder 114 = .ok (.ireturn, 1) := by decide +kernel
theorem dX9_putParts_0 : decode cX9_putParts 0 = .ok (.lconst 0, 1) := by decide +kernel
theorem dX9_putParts_1 : decode cX9_putParts 1 = .ok (.lstore 5, 2) := by decide +kernel
theorem dX9_putParts_3 : decode cX9_putParts 3 = .ok (.iload_n 2, 1) := by decide +kernel
theorem dX9_putParts_4 : decode cX9_putParts 4 = .ok (.istore 7, 2) := by decide +kernel
theorem dX9_putParts_6 : decode cX9_putParts 6 = .ok (.iload 7, 2) := by decide +kernel
theorem dX9_putParts_8 : decode cX9_putParts 8 = .ok (.iload_n 3, 1) := by decide +kernel
theorem dX9_putParts_9 : decode cX9_putParts 9 = .ok (.if_icmp .ge 25, 3) := by decide +kernel
theorem dX9_putParts_12 : decode cX9_putParts 12 = .ok (.lload 5, 2) := by decide +kernel
theorem dX9_putParts_14 : decode cX9_putParts 14 = .ok (.aload_n 0, 1) := by decide +kernel
theorem dX9_putParts_15 : decode cX9_putParts 15 = .ok (.aload_n 0, 1) := by decide +kernel
theorem dX9_putParts_16 : decode cX9_putParts 16 = .ok (.getfield 51, 3) := by decide +kernel
theorem dX9_putParts_19 : decode cX9_putParts 19 = .ok (.iload 7, 2) := by decide +kernel
theorem dX9_putParts_21 : decode cX9_putParts 21 = .ok (.iaload, 1) := by decide +kernel
theorem dX9_putParts_22 : decode cX9_putParts 22 = .ok (.invokevirtual 137, 3) := by decide +kernel
theorem dX9_putParts_25 : decode cX9_putParts 25 = .ok (.ladd, 1) := by decide +kernel
theorem dX9_putParts_26 : decode cX9_putParts 26 = .ok (.lstore 5, 2) := by decide +kernel
theorem dX9_putParts_28 : decode cX9_putParts 28 = .ok (.iinc 7 1, 3) := by decide +kernel
theorem dX9_putParts_31 : decode cX9_putParts 31 = .ok (.goto (-25), 3) := by decide +kernel
theorem dX9_putParts_34 : decode cX9_putParts 34 = .ok (.aload_n 0, 1) := by decide +kernel
theorem dX9_putParts_35 : decode cX9_putParts 35 = .ok (.getfield 149, 3) := by decide +kernel
theorem dX9_putParts_38 : decode cX9_putParts 38 = .ok (.lload 5, 2) := by decide +kernel
theorem dX9_putParts_40 : decode cX9_putParts 40 = .ok (.lcmp, 1) := by decide +kernel
theorem dX9_putParts_41 : decode cX9_putParts 41 = .ok (.ifCond .ge 10, 3) := by decide +kernel
theorem dX9_putParts_44 : decode cX9_putParts 44 = .ok (.aload_n 0, 1) := by decide +kernel
theorem dX9_putParts_45 : decode cX9_putParts 45 = .ok (.getfield 149, 3) := by decide +kernel
theorem dX9_putParts_48 : decode cX9_putParts 48 = .ok (.goto 5, 3) := by decide +kernel
theorem dX9_putParts_51 : decode cX9_putParts 51 = .ok (.lload 5, 2) := by decide +kernel
theorem dX9_putParts_53 : decode cX9_putParts 53 = .ok (.lstore 7, 2) := by decide +kernel
theorem dX9_putParts_55 : decode cX9_putParts 55 = .ok (.aload_n 0, 1) := by decide +kernel
theorem dX9_putParts_56 : decode cX9_putParts 56 = .ok (.dup, 1) := by decide +kernel
theorem dX9_putParts_57 : decode cX9_putParts 57 = .ok (.getfield 149, 3) := by decide +kernel
theorem dX9_putParts_60 : decode cX9_putParts 60 = .ok (.lload 7, 2) := by decide +kernel
theorem dX9_putParts_62 : decode cX9_putParts 62 = .ok (.lsub, 1) := by decide +kernel
theorem dX9_putParts_63 : decode cX9_putParts 63 = .ok (.putfield 149, 3) := by decide +kernel
theorem dX9_putParts_66 : decode cX9_putParts 66 = .ok (.lload 7, 2) := by decide +kernel
theorem dX9_putParts_68 : decode cX9_putParts 68 = .ok (.lstore 9, 2) := by decide +kernel
theorem dX9_putParts_70 : decode cX9_putParts 70 = .ok (.iload_n 2, 1) := by decide +kernel
theorem dX9_putParts_71 : decode cX9_putParts 71 = .ok (.istore 11, 2) := by decide +kernel
theorem dX9_putParts_73 : decode cX9_putParts 73 = .ok (.iload 11, 2) := by decide +kernel
theorem dX9_putParts_75 : decode cX9_putParts 75 = .ok (.iload_n 3, 1) := by decide +kernel
theorem dX9_putParts_76 : decode cX9_putParts 76 = .ok (.if_icmp .ge 44, 3) := by decide +kernel
theorem dX9_putParts_79 : decode cX9_putParts 79 = .ok (.aload_n 0, 1) := by decide +kernel
theorem dX9_putParts_80 : decode cX9_putParts 80 = .ok (.getfield 54, 3) := by decide +kernel
theorem dX9_putParts_83 : decode cX9_putParts 83 = .ok (.iload 11, 2) := by decide +kernel
theorem dX9_putParts_85 : decode cX9_putParts 85 = .ok (.lload 5, 2) := by decide +kernel
theorem dX9_putParts_87 : decode cX9_putParts 87 = .ok (.lconst 0, 1) := by decide +kernel
theorem dX9_putParts_88 : decode cX9_putParts 88 = .ok (.lcmp, 1) := by decide +kernel
theorem dX9_putParts_89 : decode cX9_putParts 89 = .ok (.ifCond .ne 7, 3) := by decide +kernel
theorem dX9_putParts_92 : decode cX9_putParts 92 = .ok (.lconst 0, 1) := by decide +kernel
theorem dX9_putParts_93 : decode cX9_putParts 93 = .ok (.goto 20, 3) := by decide +kernel
theorem dX9_putParts_96 : decode cX9_putParts 96 = .ok (.lload 7, 2) := by decide +kernel
theorem dX9_putParts_98 : decode cX9_putParts 98 = .ok (.aload_n 0, 1) := by decide +kernel
theorem dX9_putParts_99 : decode cX9_putParts 99 = .ok (.aload_n 0, 1) := by decide +kernel
theorem dX9_putParts_100 : decode cX9_putParts 100 = .ok (.getfield 51, 3) := by decide +kernel
theorem dX9_putParts_103 : decode cX9_putParts 103 = .ok (.iload 11, 2) := by decide +kernel
theorem dX9_putParts_105 : decode cX9_putParts 105 = .ok (.iaload, 1) := by decide +kernel
theorem dX9_putParts_106 : decode cX9_putParts 106 = .ok (.invokevirtual 137, 3) := by decide +kernel
theorem dX9_putParts_109 : decode cX9_putParts 109 = .ok (.lmul, 1) := by decide +kernel
theorem dX9_putParts_110 : decode cX9_putParts 110 = .ok (.lload 5, 2) := by decide +kernel
theorem dX9_putParts_112 : decode cX9_putParts 112 = .ok (.ldiv, 1) := by decide +kernel
theorem dX9_putParts_113 : decode cX9_putParts 113 = .ok (.lastore, 1) := by decide +kernel
theorem dX9_putParts_114 : decode cX9_putParts 114 = .ok (.iinc 11 1, 3) := by decide +kernel
theorem dX9_putParts_117 : decode cX9_putParts 117 = .ok (.goto (-44), 3) := by decide +kernel
theorem dX9_putParts_120 : decode cX9_putParts 120 = .ok (.iload_n 2, 1) := by decide +kernel
theorem dX9_putParts_121 : decode cX9_putParts 121 = .ok (.istore 11, 2) := by decide +kernel
theorem dX9_putParts_123 : decode cX9_putParts 123 = .ok (.iload 11, 2) := by decide +kernel
theorem dX9_putParts_125 : decode cX9_putParts 125 = .ok (.iload_n 3, 1) := by decide +kernel
theorem dX9_putParts_126 : decode cX9_putParts 126 = .ok (.if_icmp .ge 35, 3) := by decide +kernel
theorem dX9_putParts_129 : decode cX9_putParts 129 = .ok (.lload 9, 2) := by decide +kernel
theorem dX9_putParts_131 : decode cX9_putParts 131 = .ok (.aload_n 0, 1) := by decide +kernel
theorem dX9_putParts_132 : decode cX9_putParts 132 = .ok (.iload_n 1, 1) := by decide +kernel
theorem dX9_putParts_133 : decode cX9_putParts 133 = .ok (.aload_n 0, 1) := by decide +kernel
theorem dX9_putParts_134 : decode cX9_putParts 134 = .ok (.getfield 51, 3) := by decide +kernel
theorem dX9_putParts_137 : decode cX9_putParts 137 = .ok (.iload 11, 2) := by decide +kernel
theorem dX9_putParts_139 : decode cX9_putParts 139 = .ok (.iaload, 1) := by decide +kernel
theorem dX9_putParts_140 : decode cX9_putParts 140 = .ok (.aload_n 0, 1) := by decide +kernel
theorem dX9_putParts_141 : decode cX9_putParts 141 = .ok (.getfield 54, 3) := by decide +kernel
theorem dX9_putParts_144 : decode cX9_putParts 144 = .ok (.iload 11, 2) := by decide +kernel
theorem dX9_putParts_146 : decode cX9_putParts 146 = .ok (.laload, 1) := by decide +kernel
theorem dX9_putParts_147 : decode cX9_putParts 147 = .ok (.iload 4, 2) := by decide +kernel
theorem dX9_putParts_149 : decode cX9_putParts 149 = .ok (.invokevirtual 153, 3) := by decide +kernel
theorem dX9_putParts_152 : decode cX9_putParts 152 = .ok (.lsub, 1) := by decide +kernel
theorem dX9_putParts_153 : decode cX9_putParts 153 = .ok (.lstore 9, 2) := by decide +kernel
theorem dX9_putParts_155 : decode cX9_putParts 155 = .ok (.iinc 11 1, 3) := by decide +kernel
theorem dX9_putParts_158 : decode cX9_putParts 158 = .ok (.goto (-35), 3) := by decide +kernel
theorem dX9_putParts_161 : decode cX9_putParts 161 = .ok (.iload_n 2, 1) := by decide +kernel
theorem dX9_putParts_162 : decode cX9_putParts 162 = .ok (.istore 11, 2) := by decide +kernel
theorem dX9_putParts_164 : decode cX9_putParts 164 = .ok (.iload 11, 2) := by decide +kernel
theorem dX9_putParts_166 : decode cX9_putParts 166 = .ok (.iload_n 3, 1) := by decide +kernel
theorem dX9_putParts_167 : decode cX9_putParts 167 = .ok (.if_icmp .ge 37, 3) := by decide +kernel
theorem dX9_putParts_170 : decode cX9_putParts 170 = .ok (.lload 9, 2) := by decide +kernel
theorem dX9_putParts_172 : decode cX9_putParts 172 = .ok (.lconst 0, 1) := by decide +kernel
theorem dX9_putParts_173 : decode cX9_putParts 173 = .ok (.lcmp, 1) := by decide +kernel
theorem dX9_putParts_174 : decode cX9_putParts 174 = .ok (.ifCond .le 30, 3) := by decide +kernel
theorem dX9_putParts_177 : decode cX9_putParts 177 = .ok (.lload 9, 2) := by decide +kernel
theorem dX9_putParts_179 : decode cX9_putParts 179 = .ok (.aload_n 0, 1) := by decide +kernel
theorem dX9_putParts_180 : decode cX9_putParts 180 = .ok (.iload_n 1, 1) := by decide +kernel
theorem dX9_putParts_181 : decode cX9_putParts 181 = .ok (.aload_n 0, 1) := by decide +kernel
theorem dX9_putParts_182 : decode cX9_putParts 182 = .ok (.getfield 51, 3) := by decide +kernel
theorem dX9_putParts_185 : decode cX9_putParts 185 = .ok (.iload 11, 2) := by decide +kernel
theorem dX9_putParts_187 : decode cX9_putParts 187 = .ok (.iaload, 1) := by decide +kernel
theorem dX9_putParts_188 : decode cX9_putParts 188 = .ok (.lload 9, 2) := by decide +kernel
theorem dX9_putParts_190 : decode cX9_putParts 190 = .ok (.iload 4, 2) := by decide +kernel
theorem dX9_putParts_192 : decode cX9_putParts 192 = .ok (.invokevirtual 153, 3) := by decide +kernel
theorem dX9_putParts_195 : decode cX9_putParts 195 = .ok (.lsub, 1) := by decide +kernel
theorem dX9_putParts_196 : decode cX9_putParts 196 = .ok (.lstore 9, 2) := by decide +kernel
theorem dX9_putParts_198 : decode cX9_putParts 198 = .ok (.iinc 11 1, 3) := by decide +kernel
theorem dX9_putParts_201 : decode cX9_putParts 201 = .ok (.goto (-37), 3) := by decide +kernel
theorem dX9_putParts_204 : decode cX9_putParts 204 = .ok (.return_, 1) := by decide +kernel
theorem dX9_putAll_0 : decode cX9_putAll 0 = .ok (.iconst 0, 1) := by decide +kernel
theorem dX9_putAll_1 : decode cX9_putAll 1 = .ok (.istore 7, 2) := by decide +kernel
theorem dX9_putAll_3 : decode cX9_putAll 3 = .ok (.iload 7, 2) := by decide +kernel
theorem dX9_putAll_5 : decode cX9_putAll 5 = .ok (.aload_n 0, 1) := by decide +kernel
theorem dX9_putAll_6 : decode cX9_putAll 6 = .ok (.getfield 87, 3) := by decide +kernel
theorem dX9_putAll_9 : decode cX9_putAll 9 = .ok (.if_icmp .ge 40, 3) := by decide +kernel
theorem dX9_putAll_12 : decode cX9_putAll 12 = .ok (.aload_n 0, 1) := by decide +kernel
theorem dX9_putAll_13 : decode cX9_putAll 13 = .ok (.getfield 41, 3) := by decide +kernel
theorem dX9_putAll_16 : decode cX9_putAll 16 = .ok (.iload 7, 2) := by decide +kernel
theorem dX9_putAll_18 : decode cX9_putAll 18 = .ok (.lconst 0, 1) := by decide +kernel
theorem dX9_putAll_19 : decode cX9_putAll 19 = .ok (.lastore, 1) := by decide +kernel
theorem dX9_putAll_20 : decode cX9_putAll 20 = .ok (.aload_n 0, 1) := by decide +kernel
theorem dX9_putAll_21 : decode cX9_putAll 21 = .ok (.getfield 44, 3) := by decide +kernel
theorem dX9_putAll_24 : decode cX9_putAll 24 = .ok (.iload 7, 2) := by decide +kernel
theorem dX9_putAll_26 : decode cX9_putAll 26 = .ok (.lconst 0, 1) := by decide +kernel
theorem dX9_putAll_27 : decode cX9_putAll 27 = .ok (.lastore, 1) := by decide +kernel
theorem dX9_putAll_28 : decode cX9_putAll 28 = .ok (.aload_n 0, 1) := by decide +kernel
theorem dX9_putAll_29 : decode cX9_putAll 29 = .ok (.getfield 47, 3) := by decide +kernel
theorem dX9_putAll_32 : decode cX9_putAll 32 = .ok (.iload 7, 2) := by decide +kernel
theorem dX9_putAll_34 : decode cX9_putAll 34 = .ok (.aload_n 0, 1) := by decide +kernel
theorem dX9_putAll_35 : decode cX9_putAll 35 = .ok (.iload 7, 2) := by decide +kernel
theorem dX9_putAll_37 : decode cX9_putAll 37 = .ok (.iload 6, 2) := by decide +kernel
theorem dX9_putAll_39 : decode cX9_putAll 39 = .ok (.invokevirtual 157, 3) := by decide +kernel
theorem dX9_putAll_42 : decode cX9_putAll 42 = .ok (.bastore, 1) := by decide +kernel
theorem dX9_putAll_43 : decode cX9_putAll 43 = .ok (.iinc 7 1, 3) := by decide +kernel
theorem dX9_putAll_46 : decode cX9_putAll 46 = .ok (.goto (-43), 3) := by decide +kernel
theorem dX9_putAll_49 : decode cX9_putAll 49 = .ok (.aload_n 0, 1) := by decide +kernel
theorem dX9_putAll_50 : decode cX9_putAll 50 = .ok (.lload_n 2, 1) := by decide +kernel
theorem dX9_putAll_51 : decode cX9_putAll 51 = .ok (.putfield 149, 3) := by decide +kernel
theorem dX9_putAll_54 : decode cX9_putAll 54 = .ok (.aload_n 0, 1) := by decide +kernel
theorem dX9_putAll_55 : decode cX9_putAll 55 = .ok (.iload_n 1, 1) := by decide +kernel
theorem dX9_putAll_56 : decode cX9_putAll 56 = .ok (.bipush 99, 2) := by decide +kernel
theorem dX9_putAll_58 : decode cX9_putAll 58 = .ok (.invokevirtual 141, 3) := by decide +kernel
theorem dX9_putAll_61 : decode cX9_putAll 61 = .ok (.ifCond .eq 24, 3) := by decide +kernel
theorem dX9_putAll_64 : decode cX9_putAll 64 = .ok (.iload 4, 2) := by decide +kernel
theorem dX9_putAll_66 : decode cX9_putAll 66 = .ok (.ifCond .lt 19, 3) := by decide +kernel
theorem dX9_putAll_69 : decode cX9_putAll 69 = .ok (.aload_n 0, 1) := by decide +kernel
theorem dX9_putAll_70 : decode cX9_putAll 70 = .ok (.iload 4, 2) := by decide +kernel
theorem dX9_putAll_72 : decode cX9_putAll 72 = .ok (.invokevirtual 137, 3) := by decide +kernel
theorem dX9_putAll_75 : decode cX9_putAll 75 = .ok (.lconst 0, 1) := by decide +kernel
theorem dX9_putAll_76 : decode cX9_putAll 76 = .ok (.lcmp, 1) := by decide +kernel
theorem dX9_putAll_77 : decode cX9_putAll 77 = .ok (.ifCond .le 8, 3) := by decide +kernel
theorem dX9_putAll_80 : decode cX9_putAll 80 = .ok (.iload 4, 2) := by decide +kernel
theorem dX9_putAll_82 : decode cX9_putAll 82 = .ok (.goto 36, 3) := by decide +kernel
theorem dX9_putAll_85 : decode cX9_putAll 85 = .ok (.aload_n 0, 1) := by decide +kernel
theorem dX9_putAll_86 : decode cX9_putAll 86 = .ok (.iload_n 1, 1) := by decide +kernel
theorem dX9_putAll_87 : decode cX9_putAll 87 = .ok (.bipush 116, 2) := by decide +kernel
theorem dX9_putAll_89 : decode cX9_putAll 89 = .ok (.invokevirtual 141, 3) := by decide +kernel
theorem dX9_putAll_92 : decode cX9_putAll 92 = .ok (.ifCond .eq 24, 3) := by decide +kernel
theorem dX9_putAll_95 : decode cX9_putAll 95 = .ok (.iload 5, 2) := by decide +kernel
theorem dX9_putAll_97 : decode cX9_putAll 97 = .ok (.ifCond .lt 19, 3) := by decide +kernel
theorem dX9_putAll_100 : decode cX9_putAll 100 = .ok (.aload_n 0, 1) := by decide +kernel
theorem dX9_putAll_101 : decode cX9_putAll 101 = .ok (.iload 5, 2) := by decide +kernel
theorem dX9_putAll_103 : decode cX9_putAll 103 = .ok (.invokevirtual 137, 3) := by decide +kernel
theorem dX9_putAll_106 : decode cX9_putAll 106 = .ok (.lconst 0, 1) := by decide +kernel
theorem dX9_putAll_107 : decode cX9_putAll 107 = .ok (.lcmp, 1) := by decide +kernel
theorem dX9_putAll_108 : decode cX9_putAll 108 = .ok (.ifCond .le 8, 3) := by decide +kernel
theorem dX9_putAll_111 : decode cX9_putAll 111 = .ok (.iload 5, 2) := by decide +kernel
theorem dX9_putAll_113 : decode cX9_putAll 113 = .ok (.goto 5, 3) := by decide +kernel
theorem dX9_putAll_116 : decode cX9_putAll 116 = .ok (.bipush (-4), 2) := by decide +kernel
theorem dX9_putAll_118 : decode cX9_putAll 118 = .ok (.istore 7, 2) := by decide +kernel
theorem dX9_putAll_120 : decode cX9_putAll 120 = .ok (.iload 7, 2) := by decide +kernel
theorem dX9_putAll_122 : decode cX9_putAll 122 = .ok (.ifCond .lt 25, 3) := by decide +kernel
theorem dX9_putAll_125 : decode cX9_putAll 125 = .ok (.aload_n 0, 1) := by decide +kernel
theorem dX9_putAll_126 : decode cX9_putAll 126 = .ok (.dup, 1) := by decide +kernel
theorem dX9_putAll_127 : decode cX9_putAll 127 = .ok (.getfield 149, 3) := by decide +kernel
theorem dX9_putAll_130 : decode cX9_putAll 130 = .ok (.aload_n 0, 1) := by decide +kernel
theorem dX9_putAll_131 : decode cX9_putAll 131 = .ok (.iload_n 1, 1) := by decide +kernel
theorem dX9_putAll_132 : decode cX9_putAll 132 = .ok (.iload 7, 2) := by decide +kernel
theorem dX9_putAll_134 : decode cX9_putAll 134 = .ok (.aload_n 0, 1) := by decide +kernel
theorem dX9_putAll_135 : decode cX9_putAll 135 = .ok (.getfield 149, 3) := by decide +kernel
theorem dX9_putAll_138 : decode cX9_putAll 138 = .ok (.iload 6, 2) := by decide +kernel
theorem dX9_putAll_140 : decode cX9_putAll 140 = .ok (.invokevirtual 153, 3) := by decide +kernel
theorem dX9_putAll_143 : decode cX9_putAll 143 = .ok (.lsub, 1) := by decide +kernel
theorem dX9_putAll_144 : decode cX9_putAll 144 = .ok (.putfield 149, 3) := by decide +kernel
theorem dX9_putAll_147 : decode cX9_putAll 147 = .ok (.aload_n 0, 1) := by decide +kernel
theorem dX9_putAll_148 : decode cX9_putAll 148 = .ok (.iload_n 1, 1) := by decide +kernel
theorem dX9_putAll_149 : decode cX9_putAll 149 = .ok (.iload 6, 2) := by decide +kernel
theorem dX9_putAll_151 : decode cX9_putAll 151 = .ok (.invokevirtual 160, 3) := by decide +kernel
theorem dX9_putAll_154 : decode cX9_putAll 154 = .ok (.istore 8, 2) := by decide +kernel
theorem dX9_putAll_156 : decode cX9_putAll 156 = .ok (.iconst 0, 1) := by decide +kernel
theorem dX9_putAll_157 : decode cX9_putAll 157 = .ok (.istore 9, 2) := by decide +kernel
theorem dX9_putAll_159 : decode cX9_putAll 159 = .ok (.iload 9, 2) := by decide +kernel
theorem dX9_putAll_161 : decode cX9_putAll 161 = .ok (.iload 8, 2) := by decide +kernel
theorem dX9_putAll_163 : decode cX9_putAll 163 = .ok (.if_icmp .ge 61, 3) := by decide +kernel
theorem dX9_putAll_166 : decode cX9_putAll 166 = .ok (.aload_n 0, 1) := by decide +kernel
theorem dX9_putAll_167 : decode cX9_putAll 167 = .ok (.getfield 57, 3) := by decide +kernel
theorem dX9_putAll_170 : decode cX9_putAll 170 = .ok (.iload 9, 2) := by decide +kernel
theorem dX9_putAll_172 : decode cX9_putAll 172 = .ok (.iload 9, 2) := by decide +kernel
theorem dX9_putAll_174 : decode cX9_putAll 174 = .ok (.ifCond .le 41, 3) := by decide +kernel
theorem dX9_putAll_177 : decode cX9_putAll 177 = .ok (.aload_n 0, 1) := by decide +kernel
theorem dX9_putAll_178 : decode cX9_putAll 178 = .ok (.iload_n 1, 1) := by decide +kernel
theorem dX9_putAll_179 : decode cX9_putAll 179 = .ok (.aload_n 0, 1) := by decide +kernel
theorem dX9_putAll_180 : decode cX9_putAll 180 = .ok (.getfield 51, 3) := by decide +kernel
theorem dX9_putAll_183 : decode cX9_putAll 183 = .ok (.iload 9, 2) := by decide +kernel
theorem dX9_putAll_185 : decode cX9_putAll 185 = .ok (.iconst 1, 1) := by decide +kernel
theorem dX9_putAll_186 : decode cX9_putAll 186 = .ok (.isub, 1) := by decide +kernel
theorem dX9_putAll_187 : decode cX9_putAll 187 = .ok (.iaload, 1) := by decide +kernel
theorem dX9_putAll_188 : decode cX9_putAll 188 = .ok (.aload_n 0, 1) := by decide +kernel
theorem dX9_putAll_189 : decode cX9_putAll 189 = .ok (.getfield 51, 3) := by decide +kernel
theorem dX9_putAll_192 : decode cX9_putAll 192 = .ok (.iload 9, 2) := by decide +kernel
theorem dX9_putAll_194 : decode cX9_putAll 194 = .ok (.iaload, 1) := by decide +kernel
theorem dX9_putAll_195 : decode cX9_putAll 195 = .ok (.iload 6, 2) := by decide +kernel
theorem dX9_putAll_197 : decode cX9_putAll 197 = .ok (.invokevirtual 145, 3) := by decide +kernel
theorem dX9_putAll_200 : decode cX9_putAll 200 = .ok (.ifCond .ne 15, 3) := by decide +kernel
theorem dX9_putAll_203 : decode cX9_putAll 203 = .ok (.aload_n 0, 1) := by decide +kernel
theorem dX9_putAll_204 : decode cX9_putAll 204 = .ok (.getfield 57, 3) := by decide +kernel
theorem dX9_putAll_207 : decode cX9_putAll 207 = .ok (.iload 9, 2) := by decide +kernel
theorem dX9_putAll_209 : decode cX9_putAll 209 = .ok (.iconst 1, 1) := by decide +kernel
theorem dX9_putAll_210 : decode cX9_putAll 210 = .ok (.isub, 1) := by decide +kernel
theorem dX9_putAll_211 : decode cX9_putAll 211 = .ok (.iaload, 1) := by decide +kernel
theorem dX9_putAll_212 : decode cX9_putAll 212 = .ok (.goto 5, 3) := by decide +kernel
theorem dX9_putAll_215 : decode cX9_putAll 215 = .ok (.iload 9, 2) := by decide +kernel
theorem dX9_putAll_217 : decode cX9_putAll 217 = .ok (.iastore, 1) := by decide +kernel
theorem dX9_putAll_218 : decode cX9_putAll 218 = .ok (.iinc 9 1, 3) := by decide +kernel
theorem dX9_putAll_221 : decode cX9_putAll 221 = .ok (.goto (-62), 3) := by decide +kernel
theorem dX9_putAll_224 : decode cX9_putAll 224 = .ok (.iconst 0, 1) := by decide +kernel
theorem dX9_putAll_225 : decode cX9_putAll 225 = .ok (.istore 9, 2) := by decide +kernel
theorem dX9_putAll_227 : decode cX9_putAll 227 = .ok (.iload 9, 2) := by decide +kernel
theorem dX9_putAll_229 : decode cX9_putAll 229 = .ok (.iload 8, 2) := by decide +kernel
theorem dX9_putAll_231 : decode cX9_putAll 231 = .ok (.if_icmp .ge 103, 3) := by decide +kernel
theorem dX9_putAll_234 : decode cX9_putAll 234 = .ok (.aload_n 0, 1) := by decide +kernel
theorem dX9_putAll_235 : decode cX9_putAll 235 = .ok (.iload_n 1, 1) := by decide +kernel
theorem dX9_putAll_236 : decode cX9_putAll 236 = .ok (.bipush 112, 2) := by decide +kernel
theorem dX9_putAll_238 : decode cX9_putAll 238 = .ok (.invokevirtual 141, 3) := by decide +kernel
theorem dX9_putAll_241 : decode cX9_putAll 241 = .ok (.ifCond .ne 33, 3) := by decide +kernel
theorem dX9_putAll_244 : decode cX9_putAll 244 = .ok (.aload_n 0, 1) := by decide +kernel
theorem dX9_putAll_245 : decode cX9_putAll 245 = .ok (.dup, 1) := by decide +kernel
theorem dX9_putAll_246 : decode cX9_putAll 246 = .ok (.getfield 149, 3) := by decide +kernel
theorem dX9_putAll_249 : decode cX9_putAll 249 = .ok (.aload_n 0, 1) := by decide +kernel
theorem dX9_putAll_250 : decode cX9_putAll 250 = .ok (.iload_n 1, 1) := by decide +kernel
theorem dX9_putAll_251 : decode cX9_putAll 251 = .ok (.aload_n 0, 1) := by decide +kernel
theorem dX9_putAll_252 : decode cX9_putAll 252 = .ok (.getfield 51, 3) := by decide +kernel
theorem dX9_putAll_255 : decode cX9_putAll 255 = .ok (.iload 9, 2) := by decide +kernel
theorem dX9_putAll_257 : decode cX9_putAll 257 = .ok (.iaload, 1) := by decide +kernel
theorem dX9_putAll_258 : decode cX9_putAll 258 = .ok (.aload_n 0, 1) := by decide +kernel
theorem dX9_putAll_259 : decode cX9_putAll 259 = .ok (.getfield 149, 3) := by decide +kernel
theorem dX9_putAll_262 : decode cX9_putAll 262 = .ok (.iload 6, 2) := by decide +kernel
theorem dX9_putAll_264 : decode cX9_putAll 264 = .ok (.invokevirtual 153, 3) := by decide +kernel
theorem dX9_putAll_267 : decode cX9_putAll 267 = .ok (.lsub, 1) := by decide +kernel
theorem dX9_putAll_268 : decode cX9_putAll 268 = .ok (.putfield 149, 3) := by decide +kernel
theorem dX9_putAll_271 : decode cX9_putAll 271 = .ok (.goto 57, 3) := by decide +kernel
theorem dX9_putAll_274 : decode cX9_putAll 274 = .ok (.aload_n 0, 1) := by decide +kernel
theorem dX9_putAll_275 : decode cX9_putAll 275 = .ok (.getfield 57, 3) := by decide +kernel
theorem dX9_putAll_278 : decode cX9_putAll 278 = .ok (.iload 9, 2) := by decide +kernel
theorem dX9_putAll_280 : decode cX9_putAll 280 = .ok (.iaload, 1) := by decide +kernel
theorem dX9_putAll_281 : decode cX9_putAll 281 = .ok (.iload 9, 2) := by decide +kernel
theorem dX9_putAll_283 : decode cX9_putAll 283 = .ok (.if_icmp .ne 45, 3) := by decide +kernel
theorem dX9_putAll_286 : decode cX9_putAll 286 = .ok (.iload 9, 2) := by decide +kernel
theorem dX9_putAll_288 : decode cX9_putAll 288 = .ok (.iconst 1, 1) := by decide +kernel
theorem dX9_putAll_289 : decode cX9_putAll 289 = .ok (.iadd, 1) := by decide +kernel
theorem dX9_putAll_290 : decode cX9_putAll 290 = .ok (.istore 10, 2) := by decide +kernel
theorem dX9_putAll_292 : decode cX9_putAll 292 = .ok (.iload 10, 2) := by decide +kernel
theorem dX9_putAll_294 : decode cX9_putAll 294 = .ok (.iload 8, 2) := by decide +kernel
theorem dX9_putAll_296 : decode cX9_putAll 296 = .ok (.if_icmp .ge 21, 3) := by decide +kernel
theorem dX9_putAll_299 : decode cX9_putAll 299 = .ok (.aload_n 0, 1) := by decide +kernel
theorem dX9_putAll_300 : decode cX9_putAll 300 = .ok (.getfield 57, 3) := by decide +kernel
theorem dX9_putAll_303 : decode cX9_putAll 303 = .ok (.iload 10, 2) := by decide +kernel
theorem dX9_putAll_305 : decode cX9_putAll 305 = .ok (.iaload, 1) := by decide +kernel
theorem dX9_putAll_306 : decode cX9_putAll 306 = .ok (.iload 9, 2) := by decide +kernel
theorem dX9_putAll_308 : decode cX9_putAll 308 = .ok (.if_icmp .ne 9, 3) := by decide +kernel
theorem dX9_putAll_311 : decode cX9_putAll 311 = .ok (.iinc 10 1, 3) := by decide +kernel
theorem dX9_putAll_314 : decode cX9_putAll 314 = .ok (.goto (-22), 3) := by decide +kernel
theorem dX9_putAll_317 : decode cX9_putAll 317 = .ok (.aload_n 0, 1) := by decide +kernel
theorem dX9_putAll_318 : decode cX9_putAll 318 = .ok (.iload_n 1, 1) := by decide +kernel
theorem dX9_putAll_319 : decode cX9_putAll 319 = .ok (.iload 9, 2) := by decide +kernel
theorem dX9_putAll_321 : decode cX9_putAll 321 = .ok (.iload 10, 2) := by decide +kernel
theorem dX9_putAll_323 : decode cX9_putAll 323 = .ok (.iload 6, 2) := by decide +kernel
theorem dX9_putAll_325 : decode cX9_putAll 325 = .ok (.invokevirtual 164, 3) := by decide +kernel
theorem dX9_putAll_328 : decode cX9_putAll 328 = .ok (.iinc 9 1, 3) := by decide +kernel
theorem dX9_putAll_331 : decode cX9_putAll 331 = .ok (.goto (-104), 3) := by decide +kernel
theorem dX9_putAll_334 : decode cX9_putAll 334 = .ok (.return_, 1) := by decide +kernel
theorem dX9_putPayment_0 : decode cX9_putPayment 0 = .ok (.aload_n 0, 1) := by decide +kernel
theorem dX9_putPayment_1 : decode cX9_putPayment 1 = .ok (.iload_n 1, 1) := by decide +kernel
theorem dX9_putPayment_2 : decode cX9_putPayment 2 = .ok (.ldc2_w 135, 3) := by decide +kernel
theorem dX9_putPayment_5 : decode cX9_putPayment 5 = .ok (.aload_n 0, 1) := by decide +kernel
theorem dX9_putPayment_6 : decode cX9_putPayment 6 = .ok (.getfield 13, 3) := by decide +kernel
theorem dX9_putPayment_9 : decode cX9_putPayment 9 = .ok (.iconst 4, 1) := by decide +kernel
theorem dX9_putPayment_10 : decode cX9_putPayment 10 = .ok (.iload_n 2, 1) := by decide +kernel
theorem dX9_putPayment_11 : decode cX9_putPayment 11 = .ok (.imul, 1) := by decide +kernel
theorem dX9_putPayment_12 : decode cX9_putPayment 12 = .ok (.iconst 1, 1) := by decide +kernel
theorem dX9_putPayment_13 : decode cX9_putPayment 13 = .ok (.iadd, 1) := by decide +kernel
theorem dX9_putPayment_14 : decode cX9_putPayment 14 = .ok (.iaload, 1) := by decide +kernel
theorem dX9_putPayment_15 : decode cX9_putPayment 15 = .ok (.i2l, 1) := by decide +kernel
theorem dX9_putPayment_16 : decode cX9_putPayment 16 = .ok (.lmul, 1) := by decide +kernel
theorem dX9_putPayment_17 : decode cX9_putPayment 17 = .ok (.aload_n 0, 1) := by decide +kernel
theorem dX9_putPayment_18 : decode cX9_putPayment 18 = .ok (.getfield 13, 3) := by decide +kernel
theorem dX9_putPayment_21 : decode cX9_putPayment 21 = .ok (.iconst 4, 1) := by decide +kernel
theorem dX9_putPayment_22 : decode cX9_putPayment 22 = .ok (.iload_n 2, 1) := by decide +kernel
theorem dX9_putPayment_23 : decode cX9_putPayment 23 = .ok (.imul, 1) := by decide +kernel
theorem dX9_putPayment_24 : decode cX9_putPayment 24 = .ok (.iconst 2, 1) := by decide +kernel
theorem dX9_putPayment_25 : decode cX9_putPayment 25 = .ok (.iadd, 1) := by decide +kernel
theorem dX9_putPayment_26 : decode cX9_putPayment 26 = .ok (.iaload, 1) := by decide +kernel
theorem dX9_putPayment_27 : decode cX9_putPayment 27 = .ok (.aload_n 0, 1) := by decide +kernel
theorem dX9_putPayment_28 : decode cX9_putPayment 28 = .ok (.getfield 13, 3) := by decide +kernel
theorem dX9_putPayment_31 : decode cX9_putPayment 31 = .ok (.iconst 4, 1) := by decide +kernel
theorem dX9_putPayment_32 : decode cX9_putPayment 32 = .ok (.iload_n 2, 1) := by decide +kernel
theorem dX9_putPayment_33 : decode cX9_putPayment 33 = .ok (.imul, 1) := by decide +kernel
theorem dX9_putPayment_34 : decode cX9_putPayment 34 = .ok (.iconst 3, 1) := by decide +kernel
theorem dX9_putPayment_35 : decode cX9_putPayment 35 = .ok (.iadd, 1) := by decide +kernel
theorem dX9_putPayment_36 : decode cX9_putPayment 36 = .ok (.iaload, 1) := by decide +kernel
theorem dX9_putPayment_37 : decode cX9_putPayment 37 = .ok (.iload_n 3, 1) := by decide +kernel
theorem dX9_putPayment_38 : decode cX9_putPayment 38 = .ok (.invokevirtual 168, 3) := by decide +kernel
theorem dX9_putPayment_41 : decode cX9_putPayment 41 = .ok (.return_, 1) := by decide +kernel
theorem dX9_goDay_0 : decode cX9_goDay 0 = .ok (.aload_n 0, 1) := by decide +kernel
theorem dX9_goDay_1 : decode cX9_goDay 1 = .ok (.iload_n 2, 1) := by decide +kernel
theorem dX9_goDay_2 : decode cX9_goDay 2 = .ok (.invokevirtual 172, 3) := by decide +kernel
theorem dX9_goDay_5 : decode cX9_goDay 5 = .ok (.iconst 0, 1) := by decide +kernel
theorem dX9_goDay_6 : decode cX9_goDay 6 = .ok (.istore_n 3, 1) := by decide +kernel
theorem dX9_goDay_7 : decode cX9_goDay 7 = .ok (.iload_n 3, 1) := by decide +kernel
theorem dX9_goDay_8 : decode cX9_goDay 8 = .ok (.aload_n 0, 1) := by decide +kernel
theorem dX9_goDay_9 : decode cX9_goDay 9 = .ok (.getfield 91, 3) := by decide +kernel
theorem dX9_goDay_12 : decode cX9_goDay 12 = .ok (.if_icmp .ge 28, 3) := by decide +kernel
theorem dX9_goDay_15 : decode cX9_goDay 15 = .ok (.aload_n 0, 1) := by decide +kernel
theorem dX9_goDay_16 : decode cX9_goDay 16 = .ok (.getfield 13, 3) := by decide +kernel
theorem dX9_goDay_19 : decode cX9_goDay 19 = .ok (.iconst 4, 1) := by decide +kernel
theorem dX9_goDay_20 : decode cX9_goDay 20 = .ok (.iload_n 3, 1) := by decide +kernel
theorem dX9_goDay_21 : decode cX9_goDay 21 = .ok (.imul, 1) := by decide +kernel
theorem dX9_goDay_22 : decode cX9_goDay 22 = .ok (.iaload, 1) := by decide +kernel
theorem dX9_goDay_23 : decode cX9_goDay 23 = .ok (.iload_n 2, 1) := by decide +kernel
theorem dX9_goDay_24 : decode cX9_goDay 24 = .ok (.if_icmp .ne 10, 3) := by decide +kernel
theorem dX9_goDay_27 : decode cX9_goDay 27 = .ok (.aload_n 0, 1) := by decide +kernel
theorem dX9_goDay_28 : decode cX9_goDay 28 = .ok (.iload_n 1, 1) := by decide +kernel
theorem dX9_goDay_29 : decode cX9_goDay 29 = .ok (.iload_n 3, 1) := by decide +kernel
theorem dX9_goDay_30 : decode cX9_goDay 30 = .ok (.iload_n 2, 1) := by decide +kernel
theorem dX9_goDay_31 : decode cX9_goDay 31 = .ok (.invokevirtual 176, 3) := by decide +kernel
theorem dX9_goDay_34 : decode cX9_goDay 34 = .ok (.iinc 3 1, 3) := by decide +kernel
theorem dX9_goDay_37 : decode cX9_goDay 37 = .ok (.goto (-30), 3) := by decide +kernel
theorem dX9_goDay_40 : decode cX9_goDay 40 = .ok (.return_, 1) := by decide +kernel
theorem dX9_goTo_0 : decode cX9_goTo 0 = .ok (.aload_n 0, 1) := by decide +kernel
theorem dX9_goTo_1 : decode cX9_goTo 1 = .ok (.invokevirtual 180, 3) := by decide +kernel
theorem dX9_goTo_4 : decode cX9_goTo 4 = .ok (.iconst 0, 1) := by decide +kernel
theorem dX9_goTo_5 : decode cX9_goTo 5 = .ok (.istore_n 3, 1) := by decide +kernel
theorem dX9_goTo_6 : decode cX9_goTo 6 = .ok (.iload_n 3, 1) := by decide +kernel
theorem dX9_goTo_7 : decode cX9_goTo 7 = .ok (.iload_n 2, 1) := by decide +kernel
theorem dX9_goTo_8 : decode cX9_goTo 8 = .ok (.if_icmp .gt 15, 3) := by decide +kernel
theorem dX9_goTo_11 : decode cX9_goTo 11 = .ok (.aload_n 0, 1) := by decide +kernel
theorem dX9_goTo_12 : decode cX9_goTo 12 = .ok (.iload_n 1, 1) := by decide +kernel
theorem dX9_goTo_13 : decode cX9_goTo 13 = .ok (.iload_n 3, 1) := by decide +kernel
theorem dX9_goTo_14 : decode cX9_goTo 14 = .ok (.invokevirtual 183, 3) := by decide +kernel
theorem dX9_goTo_17 : decode cX9_goTo 17 = .ok (.iinc 3 1, 3) := by decide +kernel
theorem dX9_goTo_20 : decode cX9_goTo 20 = .ok (.goto (-14), 3) := by decide +kernel
theorem dX9_goTo_23 : decode cX9_goTo 23 = .ok (.return_, 1) := by decide +kernel
theorem dX9_owedNow_0 : decode cX9_owedNow 0 = .ok (.lconst 0, 1) := by decide +kernel
theorem dX9_owedNow_1 : decode cX9_owedNow 1 = .ok (.lstore_n 1, 1) := by decide +kernel
theorem dX9_owedNow_2 : decode cX9_owedNow 2 = .ok (.iconst 0, 1) := by decide +kernel
theorem dX9_owedNow_3 : decode cX9_owedNow 3 = .ok (.istore_n 3, 1) := by decide +kernel
theorem dX9_owedNow_4 : decode cX9_owedNow 4 = .ok (.iload_n 3, 1) := by decide +kernel
theorem dX9_owedNow_5 : decode cX9_owedNow 5 = .ok (.aload_n 0, 1) := by decide +kernel
theorem dX9_owedNow_6 : decode cX9_owedNow 6 = .ok (.getfield 87, 3) := by decide +kernel
theorem dX9_owedNow_9 : decode cX9_owedNow 9 = .ok (.if_icmp .ge 17, 3) := by decide +kernel
theorem dX9_owedNow_12 : decode cX9_owedNow 12 = .ok (.lload_n 1, 1) := by decide +kernel
theorem dX9_owedNow_13 : decode cX9_owedNow 13 = .ok (.aload_n 0, 1) := by decide +kernel
theorem dX9_owedNow_14 : decode cX9_owedNow 14 = .ok (.iload_n 3, 1) := by decide +kernel
theorem dX9_owedNow_15 : decode cX9_owedNow 15 = .ok (.invokevirtual 137, 3) := by decide +kernel
theorem dX9_owedNow_18 : decode cX9_owedNow 18 = .ok (.ladd, 1) := by decide +kernel
theorem dX9_owedNow_19 : decode cX9_owedNow 19 = .ok (.lstore_n 1, 1) := by decide +kernel
theorem dX9_owedNow_20 : decode cX9_owedNow 20 = .ok (.iinc 3 1, 3) := by decide +kernel
theorem dX9_owedNow_23 : decode cX9_owedNow 23 = .ok (.goto (-19), 3) := by decide +kernel
theorem dX9_owedNow_26 : decode cX9_owedNow 26 = .ok (.lload_n 1, 1) := by decide +kernel
theorem dX9_owedNow_27 : decode cX9_owedNow 27 = .ok (.lreturn, 1) := by decide +kernel
theorem dX9_owedOn_0 : decode cX9_owedOn 0 = .ok (.aload_n 0, 1) := by decide +kernel
theorem dX9_owedOn_1 : decode cX9_owedOn 1 = .ok (.iload_n 1, 1) := by decide +kernel
theorem dX9_owedOn_2 : decode cX9_owedOn 2 = .ok (.iload_n 2, 1) := by decide +kernel
theorem dX9_owedOn_3 : decode cX9_owedOn 3 = .ok (.invokevirtual 186, 3) := by decide +kernel
theorem dX9_owedOn_6 : decode cX9_owedOn 6 = .ok (.aload_n 0, 1) := by decide +kernel
theorem dX9_owedOn_7 : decode cX9_owedOn 7 = .ok (.invokevirtual 189, 3) := by decide +kernel
theorem dX9_owedOn_10 : decode cX9_owedOn 10 = .ok (.lreturn, 1) := by decide +kernel
theorem dX9_left_0 : decode cX9_left 0 = .ok (.iload_n 1, 1) := by decide +kernel
theorem dX9_left_1 : decode cX9_left 1 = .ok (.invokestatic 129, 3) := by decide +kernel
theorem dX9_left_4 : decode cX9_left 4 = .ok (.ifCond .eq 31, 3) := by decide +kernel
theorem dX9_left_7 : decode cX9_left 7 = .ok (.aload_n 0, 1) := by decide +kernel
theorem dX9_left_8 : decode cX9_left 8 = .ok (.iload_n 2, 1) := by decide +kernel
theorem dX9_left_9 : decode cX9_left 9 = .ok (.invokevirtual 102, 3) := by decide +kernel
theorem dX9_left_12 : decode cX9_left 12 = .ok (.ifCond .eq 23, 3) := by decide +kernel
theorem dX9_left_15 : decode cX9_left 15 = .ok (.iload_n 3, 1) := by decide +kernel
theorem dX9_left_16 : decode cX9_left 16 = .ok (.invokestatic 96, 3) := by decide +kernel
theorem dX9_left_19 : decode cX9_left 19 = .ok (.ifCond .eq 16, 3) := by decide +kernel
theorem dX9_left_22 : decode cX9_left 22 = .ok (.iload 4, 2) := by decide +kernel
theorem dX9_left_24 : decode cX9_left 24 = .ok (.i2l, 1) := by decide +kernel
theorem dX9_left_25 : decode cX9_left 25 = .ok (.lconst 0, 1) := by decide +kernel
theorem dX9_left_26 : decode cX9_left 26 = .ok (.ldc2_w 193, 3) := by decide +kernel
theorem dX9_left_29 : decode cX9_left 29 = .ok (.invokestatic 83, 3) := by decide +kernel
theorem dX9_left_32 : decode cX9_left 32 = .ok (.ifCond .ne 7, 3) := by decide +kernel
theorem dX9_left_35 : decode cX9_left 35 = .ok (.ldc2_w 107, 3) := by decide +kernel
theorem dX9_left_38 : decode cX9_left 38 = .ok (.lreturn, 1) := by decide +kernel
theorem dX9_left_39 : decode cX9_left 39 = .ok (.aload_n 0, 1) := by decide +kernel
theorem dX9_left_40 : decode cX9_left 40 = .ok (.iload_n 1, 1) := by decide +kernel
theorem dX9_left_41 : decode cX9_left 41 = .ok (.iload_n 3, 1) := by decide +kernel
theorem dX9_left_42 : decode cX9_left 42 = .ok (.invokevirtual 186, 3) := by decide +kernel
theorem dX9_left_45 : decode cX9_left 45 = .ok (.iload 4, 2) := by decide +kernel
theorem dX9_left_47 : decode cX9_left 47 = .ok (.ifCond .ne 12, 3) := by decide +kernel
theorem dX9_left_50 : decode cX9_left 50 = .ok (.aload_n 0, 1) := by decide +kernel
theorem dX9_left_51 : decode cX9_left 51 = .ok (.getfield 28, 3) := by decide +kernel
theorem dX9_left_54 : decode cX9_left 54 = .ok (.iload_n 2, 1) := by decide +kernel
theorem dX9_left_55 : decode cX9_left 55 = .ok (.laload, 1) := by decide +kernel
theorem dX9_left_56 : decode cX9_left 56 = .ok (.goto 23, 3) := by decide +kernel
theorem dX9_left_59 : decode cX9_left 59 = .ok (.iload 4, 2) := by decide +kernel
theorem dX9_left_61 : decode cX9_left 61 = .ok (.iconst 1, 1) := by decide +kernel
theorem dX9_left_62 : decode cX9_left 62 = .ok (.if_icmp .ne 12, 3) := by decide +kernel
theorem dX9_left_65 : decode cX9_left 65 = .ok (.aload_n 0, 1) := by decide +kernel
theorem dX9_left_66 : decode cX9_left 66 = .ok (.getfield 32, 3) := by decide +kernel
theorem dX9_left_69 : decode cX9_left 69 = .ok (.iload_n 2, 1) := by decide +kernel
theorem dX9_left_70 : decode cX9_left 70 = .ok (.laload, 1) := by decide +kernel
theorem dX9_left_71 : decode cX9_left 71 = .ok (.goto 8, 3) := by decide +kernel
theorem dX9_left_74 : decode cX9_left 74 = .ok (.aload_n 0, 1) := by decide +kernel
theorem dX9_left_75 : decode cX9_left 75 = .ok (.iload_n 2, 1) := by decide +kernel
theorem dX9_left_76 : decode cX9_left 76 = .ok (.invokevirtual 137, 3) := by decide +kernel
theorem dX9_left_79 : decode cX9_left 79 = .ok (.lreturn, 1) := by decide +kernel
theorem dX9_owed_0 : decode cX9_owed 0 = .ok (.iload_n 1, 1) := by decide +kernel
theorem dX9_owed_1 : decode cX9_owed 1 = .ok (.invokestatic 129, 3) := by decide +kernel
theorem dX9_owed_4 : decode cX9_owed 4 = .ok (.ifCond .eq 19, 3) := by decide +kernel
theorem dX9_owed_7 : decode cX9_owed 7 = .ok (.iload_n 2, 1) := by decide +kernel
theorem dX9_owed_8 : decode cX9_owed 8 = .ok (.invokestatic 96, 3) := by decide +kernel
theorem dX9_owed_11 : decode cX9_owed 11 = .ok (.ifCond .eq 12, 3) := by decide +kernel
theorem dX9_owed_14 : decode cX9_owed 14 = .ok (.aload_n 0, 1) := by decide +kernel
theorem dX9_owed_15 : decode cX9_owed 15 = .ok (.iload_n 1, 1) := by decide +kernel
theorem dX9_owed_16 : decode cX9_owed 16 = .ok (.iload_n 2, 1) := by decide +kernel
theorem dX9_owed_17 : decode cX9_owed 17 = .ok (.invokevirtual 195, 3) := by decide +kernel
theorem dX9_owed_20 : decode cX9_owed 20 = .ok (.goto 6, 3) := by decide +kernel
theorem dX9_owed_23 : decode cX9_owed 23 = .ok (.ldc2_w 107, 3) := by decide +kernel
theorem dX9_owed_26 : decode cX9_owed 26 = .ok (.lreturn, 1) := by decide +kernel
theorem dX9_put_0 : decode cX9_put 0 = .ok (.iload_n 1, 1) := by decide +kernel
theorem dX9_put_1 : decode cX9_put 1 = .ok (.invokestatic 129, 3) := by decide +kernel
theorem dX9_put_4 : decode cX9_put 4 = .ok (.ifCond .eq 40, 3) := by decide +kernel
theorem dX9_put_7 : decode cX9_put 7 = .ok (.aload_n 0, 1) := by decide +kernel
theorem dX9_put_8 : decode cX9_put 8 = .ok (.iload_n 2, 1) := by decide +kernel
theorem dX9_put_9 : decode cX9_put 9 = .ok (.invokevirtual 113, 3) := by decide +kernel
theorem dX9_put_12 : decode cX9_put 12 = .ok (.ifCond .eq 32, 3) := by decide +kernel
theorem dX9_put_15 : decode cX9_put 15 = .ok (.iload_n 3, 1) := by decide +kernel
theorem dX9_put_16 : decode cX9_put 16 = .ok (.i2l, 1) := by decide +kernel
theorem dX9_put_17 : decode cX9_put 17 = .ok (.ldc2_w 107, 3) := by decide +kernel
theorem dX9_put_20 : decode cX9_put 20 = .ok (.aload_n 0, 1) := by decide +kernel
theorem dX9_put_21 : decode cX9_put 21 = .ok (.getfield 87, 3) := by decide +kernel
theorem dX9_put_24 : decode cX9_put 24 = .ok (.iconst 1, 1) := by decide +kernel
theorem dX9_put_25 : decode cX9_put 25 = .ok (.isub, 1) := by decide +kernel
theorem dX9_put_26 : decode cX9_put 26 = .ok (.i2l, 1) := by decide +kernel
theorem dX9_put_27 : decode cX9_put 27 = .ok (.invokestatic 83, 3) := by decide +kernel
theorem dX9_put_30 : decode cX9_put 30 = .ok (.ifCond .eq 14, 3) := by decide +kernel
theorem dX9_put_33 : decode cX9_put 33 = .ok (.iload 4, 2) := by decide +kernel
theorem dX9_put_35 : decode cX9_put 35 = .ok (.i2l, 1) := by decide +kernel
theorem dX9_put_36 : decode cX9_put 36 = .ok (.lconst 0, 1) := by decide +kernel
theorem dX9_put_37 : decode cX9_put 37 = .ok (.lconst 1, 1) := by decide +kernel
theorem dX9_put_38 : decode cX9_put 38 = .ok (.invokestatic 83, 3) := by decide +kernel
theorem dX9_put_41 : decode cX9_put 41 = .ok (.ifCond .ne 7, 3) := by decide +kernel
theorem dX9_put_44 : decode cX9_put 44 = .ok (.ldc2_w 107, 3) := by decide +kernel
theorem dX9_put_47 : decode cX9_put 47 = .ok (.lreturn, 1) := by decide +kernel
theorem dX9_put_48 : decode cX9_put 48 = .ok (.aload_n 0, 1) := by decide +kernel
theorem dX9_put_49 : decode cX9_put 49 = .ok (.getfield 13, 3) := by decide +kernel
theorem dX9_put_52 : decode cX9_put 52 = .ok (.iconst 4, 1) := by decide +kernel
theorem dX9_put_53 : decode cX9_put 53 = .ok (.iload_n 2, 1) := by decide +kernel
theorem dX9_put_54 : decode cX9_put 54 = .ok (.imul, 1) := by decide +kernel
theorem dX9_put_55 : decode cX9_put 55 = .ok (.iaload, 1) := by decide +kernel
theorem dX9_put_56 : decode cX9_put 56 = .ok (.istore 5, 2) := by decide +kernel
theorem dX9_put_58 : decode cX9_put 58 = .ok (.aload_n 0, 1) := by decide +kernel
theorem dX9_put_59 : decode cX9_put 59 = .ok (.invokevirtual 180, 3) := by decide +kernel
theorem dX9_put_62 : decode cX9_put 62 = .ok (.iconst 0, 1) := by decide +kernel
theorem dX9_put_63 : decode cX9_put 63 = .ok (.istore 6, 2) := by decide +kernel
theorem dX9_put_65 : decode cX9_put 65 = .ok (.iload 6, 2) := by decide +kernel
theorem dX9_put_67 : decode cX9_put 67 = .ok (.iload 5, 2) := by decide +kernel
theorem dX9_put_69 : decode cX9_put 69 = .ok (.if_icmp .ge 16, 3) := by decide +kernel
theorem dX9_put_72 : decode cX9_put 72 = .ok (.aload_n 0, 1) := by decide +kernel
theorem dX9_put_73 : decode cX9_put 73 = .ok (.iload_n 1, 1) := by decide +kernel
theorem dX9_put_74 : decode cX9_put 74 = .ok (.iload 6, 2) := by decide +kernel
theorem dX9_put_76 : decode cX9_put 76 = .ok (.invokevirtual 183, 3) := by decide +kernel
theorem dX9_put_79 : decode cX9_put 79 = .ok (.iinc 6 1, 3) := by decide +kernel
theorem dX9_put_82 : decode cX9_put 82 = .ok (.goto (-17), 3) := by decide +kernel
theorem dX9_put_85 : decode cX9_put 85 = .ok (.aload_n 0, 1) := by decide +kernel
theorem dX9_put_86 : decode cX9_put 86 = .ok (.iload 5, 2) := by decide +kernel
theorem dX9_put_88 : decode cX9_put 88 = .ok (.invokevirtual 172, 3) := by decide +kernel
theorem dX9_put_91 : decode cX9_put 91 = .ok (.iconst 0, 1) := by decide +kernel
theorem dX9_put_92 : decode cX9_put 92 = .ok (.istore 6, 2) := by decide +kernel
theorem dX9_put_94 : decode cX9_put 94 = .ok (.iload 6, 2) := by decide +kernel
theorem dX9_put_96 : decode cX9_put 96 = .ok (.iload_n 2, 1) := by decide +kernel
theorem dX9_put_97 : decode cX9_put 97 = .ok (.if_icmp .gt 32, 3) := by decide +kernel
theorem dX9_put_100 : decode cX9_put 100 = .ok (.aload_n 0, 1) := by decide +kernel
theorem dX9_put_101 : decode cX9_put 101 = .ok (.getfield 13, 3) := by decide +kernel
theorem dX9_put_104 : decode cX9_put 104 = .ok (.iconst 4, 1) := by decide +kernel
theorem dX9_put_105 : decode cX9_put 105 = .ok (.iload 6, 2) := by decide +kernel
theorem dX9_put_107 : decode cX9_put 107 = .ok (.imul, 1) := by decide +kernel
theorem dX9_put_108 : decode cX9_put 108 = .ok (.iaload, 1) := by decide +kernel
theorem dX9_put_109 : decode cX9_put 109 = .ok (.iload 5, 2) := by decide +kernel
theorem dX9_put_111 : decode cX9_put 111 = .ok (.if_icmp .ne 12, 3) := by decide +kernel
theorem dX9_put_114 : decode cX9_put 114 = .ok (.aload_n 0, 1) := by decide +kernel
theorem dX9_put_115 : decode cX9_put 115 = .ok (.iload_n 1, 1) := by decide +kernel
theorem dX9_put_116 : decode cX9_put 116 = .ok (.iload 6, 2) := by decide +kernel
theorem dX9_put_118 : decode cX9_put 118 = .ok (.iload 5, 2) := by decide +kernel
theorem dX9_put_120 : decode cX9_put 120 = .ok (.invokevirtual 176, 3) := by decide +kernel
theorem dX9_put_123 : decode cX9_put 123 = .ok (.iinc 6 1, 3) := by decide +kernel
theorem dX9_put_126 : decode cX9_put 126 = .ok (.goto (-32), 3) := by decide +kernel
theorem dX9_put_129 : decode cX9_put 129 = .ok (.iload_n 3, 1) := by decide +kernel
theorem dX9_put_130 : decode cX9_put 130 = .ok (.ifCond .ge 10, 3) := by decide +kernel
theorem dX9_put_133 : decode cX9_put 133 = .ok (.aload_n 0, 1) := by decide +kernel
theorem dX9_put_134 : decode cX9_put 134 = .ok (.getfield 149, 3) := by decide +kernel
theorem dX9_put_137 : decode cX9_put 137 = .ok (.goto 23, 3) := by decide +kernel
theorem dX9_put_140 : decode cX9_put 140 = .ok (.iload 4, 2) := by decide +kernel
theorem dX9_put_142 : decode cX9_put 142 = .ok (.ifCond .ne 12, 3) := by decide +kernel
theorem dX9_put_145 : decode cX9_put 145 = .ok (.aload_n 0, 1) := by decide +kernel
theorem dX9_put_146 : decode cX9_put 146 = .ok (.getfield 41, 3) := by decide +kernel
theorem dX9_put_149 : decode cX9_put 149 = .ok (.iload_n 3, 1) := by decide +kernel
theorem dX9_put_150 : decode cX9_put 150 = .ok (.laload, 1) := by decide +kernel
theorem dX9_put_151 : decode cX9_put 151 = .ok (.goto 9, 3) := by decide +kernel
theorem dX9_put_154 : decode cX9_put 154 = .ok (.aload_n 0, 1) := by decide +kernel
theorem dX9_put_155 : decode cX9_put 155 = .ok (.getfield 44, 3) := by decide +kernel
theorem dX9_put_158 : decode cX9_put 158 = .ok (.iload_n 3, 1) := by decide +kernel
theorem dX9_put_159 : decode cX9_put 159 = .ok (.laload, 1) := by decide +kernel
theorem dX9_put_160 : decode cX9_put 160 = .ok (.lreturn, 1) := by decide +kernel
theorem dX9_paid_0 : decode cX9_paid 0 = .ok (.iload_n 1, 1) := by decide +kernel
theorem dX9_paid_1 : decode cX9_paid 1 = .ok (.invokestatic 129, 3) := by decide +kernel
theorem dX9_paid_4 : decode cX9_paid 4 = .ok (.ifCond .eq 11, 3) := by decide +kernel
theorem dX9_paid_7 : decode cX9_paid 7 = .ok (.aload_n 0, 1) := by decide +kernel
theorem dX9_paid_8 : decode cX9_paid 8 = .ok (.iload_n 2, 1) := by decide +kernel
theorem dX9_paid_9 : decode cX9_paid 9 = .ok (.invokevirtual 102, 3) := by decide +kernel
theorem dX9_paid_12 : decode cX9_paid 12 = .ok (.ifCond .ne 5, 3) := by decide +kernel
theorem dX9_paid_15 : decode cX9_paid 15 = .ok (.iconst (-1), 1) := by decide +kernel
theorem dX9_paid_16 : decode cX9_paid 16 = .ok (.ireturn, 1) := by decide +kernel
theorem dX9_paid_17 : decode cX9_paid 17 = .ok (.aload_n 0, 1) := by decide +kernel
theorem dX9_paid_18 : decode cX9_paid 18 = .ok (.invokevirtual 180, 3) := by decide +kernel
theorem dX9_paid_21 : decode cX9_paid 21 = .ok (.iconst 0, 1) := by decide +kernel
theorem dX9_paid_22 : decode cX9_paid 22 = .ok (.istore_n 3, 1) := by decide +kernel
theorem dX9_paid_23 : decode cX9_paid 23 = .ok (.iload_n 3, 1) := by decide +kernel
theorem dX9_paid_24 : decode cX9_paid 24 = .ok (.sipush 299, 3) := by decide +kernel
theorem dX9_paid_27 : decode cX9_paid 27 = .ok (.if_icmp .gt 42, 3) := by decide +kernel
theorem dX9_paid_30 : decode cX9_paid 30 = .ok (.aload_n 0, 1) := by decide +kernel
theorem dX9_paid_31 : decode cX9_paid 31 = .ok (.iload_n 1, 1) := by decide +kernel
theorem dX9_paid_32 : decode cX9_paid 32 = .ok (.iload_n 3, 1) := by decide +kernel
theorem dX9_paid_33 : decode cX9_paid 33 = .ok (.invokevirtual 183, 3) := by decide +kernel
theorem dX9_paid_36 : decode cX9_paid 36 = .ok (.iload_n 3, 1) := by decide +kernel
theorem dX9_paid_37 : decode cX9_paid 37 = .ok (.aload_n 0, 1) := by decide +kernel
theorem dX9_paid_38 : decode cX9_paid 38 = .ok (.getfield 7, 3) := by decide +kernel
theorem dX9_paid_41 : decode cX9_paid 41 = .ok (.bipush 8, 2) := by decide +kernel
theorem dX9_paid_43 : decode cX9_paid 43 = .ok (.iload_n 2, 1) := by decide +kernel
theorem dX9_paid_44 : decode cX9_paid 44 = .ok (.imul, 1) := by decide +kernel
theorem dX9_paid_45 : decode cX9_paid 45 = .ok (.iconst 1, 1) := by decide +kernel
theorem dX9_paid_46 : decode cX9_paid 46 = .ok (.iadd, 1) := by decide +kernel
theorem dX9_paid_47 : decode cX9_paid 47 = .ok (.iaload, 1) := by decide +kernel
theorem dX9_paid_48 : decode cX9_paid 48 = .ok (.if_icmp .lt 15, 3) := by decide +kernel
theorem dX9_paid_51 : decode cX9_paid 51 = .ok (.aload_n 0, 1) := by decide +kernel
theorem dX9_paid_52 : decode cX9_paid 52 = .ok (.iload_n 2, 1) := by decide +kernel
theorem dX9_paid_53 : decode cX9_paid 53 = .ok (.invokevirtual 137, 3) := by decide +kernel
theorem dX9_paid_56 : decode cX9_paid 56 = .ok (.lconst 0, 1) := by decide +kernel
theorem dX9_paid_57 : decode cX9_paid 57 = .ok (.lcmp, 1) := by decide +kernel
theorem dX9_paid_58 : decode cX9_paid 58 = .ok (.ifCond .ne 5, 3) := by decide +kernel
theorem dX9_paid_61 : decode cX9_paid 61 = .ok (.iload_n 3, 1) := by decide +kernel
theorem dX9_paid_62 : decode cX9_paid 62 = .ok (.ireturn, 1) := by decide +kernel
theorem dX9_paid_63 : decode cX9_paid 63 = .ok (.iinc 3 1, 3) := by decide +kernel
theorem dX9_paid_66 : decode cX9_paid 66 = .ok (.goto (-43), 3) := by decide +kernel
theorem dX9_paid_69 : decode cX9_paid 69 = .ok (.bipush (-4), 2) := by decide +kernel
theorem dX9_paid_71 : decode cX9_paid 71 = .ok (.ireturn, 1) := by decide +kernel
theorem dX9_dead_0 : decode cX9_dead 0 = .ok (.iload_n 1, 1) := by decide +kernel
theorem dX9_dead_1 : decode cX9_dead 1 = .ok (.invokestatic 129, 3) := by decide +kernel
theorem dX9_dead_4 : decode cX9_dead 4 = .ok (.ifCond .eq 18, 3) := by decide +kernel
theorem dX9_dead_7 : decode cX9_dead 7 = .ok (.aload_n 0, 1) := by decide +kernel
theorem dX9_dead_8 : decode cX9_dead 8 = .ok (.iload_n 2, 1) := by decide +kernel
theorem dX9_dead_9 : decode cX9_dead 9 = .ok (.invokevirtual 102, 3) := by decide +kernel
theorem dX9_dead_12 : decode cX9_dead 12 = .ok (.ifCond .eq 10, 3) := by decide +kernel
theorem dX9_dead_15 : decode cX9_dead 15 = .ok (.iload_n 3, 1) := by decide +kernel
theorem dX9_dead_16 : decode cX9_dead 16 = .ok (.invokestatic 96, 3) := by decide +kernel
theorem dX9_dead_19 : decode cX9_dead 19 = .ok (.ifCond .ne 5, 3) := by decide +kernel
theorem dX9_dead_22 : decode cX9_dead 22 = .ok (.iconst (-1), 1) := by decide +kernel
theorem dX9_dead_23 : decode cX9_dead 23 = .ok (.ireturn, 1) := by decide +kernel
theorem dX9_dead_24 : decode cX9_dead 24 = .ok (.aload_n 0, 1) := by decide +kernel
theorem dX9_dead_25 : decode cX9_dead 25 = .ok (.invokevirtual 180, 3) := by decide +kernel
theorem dX9_dead_28 : decode cX9_dead 28 = .ok (.iconst 0, 1) := by decide +kernel
theorem dX9_dead_29 : decode cX9_dead 29 = .ok (.istore 4, 2) := by decide +kernel
theorem dX9_dead_31 : decode cX9_dead 31 = .ok (.iload 4, 2) := by decide +kernel
theorem dX9_dead_33 : decode cX9_dead 33 = .ok (.iload_n 3, 1) := by decide +kernel
theorem dX9_dead_34 : decode cX9_dead 34 = .ok (.if_icmp .ge 16, 3) := by decide +kernel
theorem dX9_dead_37 : decode cX9_dead 37 = .ok (.aload_n 0, 1) := by decide +kernel
theorem dX9_dead_38 : decode cX9_dead 38 = .ok (.iload_n 1, 1) := by decide +kernel
theorem dX9_dead_39 : decode cX9_dead 39 = .ok (.iload 4, 2) := by decide +kernel
theorem dX9_dead_41 : decode cX9_dead 41 = .ok (.invokevirtual 183, 3) := by decide +kernel
theorem dX9_dead_44 : decode cX9_dead 44 = .ok (.iinc 4 1, 3) := by decide +kernel
theorem dX9_dead_47 : decode cX9_dead 47 = .ok (.goto (-16), 3) := by decide +kernel
theorem dX9_dead_50 : decode cX9_dead 50 = .ok (.aload_n 0, 1) := by decide +kernel
theorem dX9_dead_51 : decode cX9_dead 51 = .ok (.iload_n 3, 1) := by decide +kernel
theorem dX9_dead_52 : decode cX9_dead 52 = .ok (.invokevirtual 172, 3) := by decide +kernel
theorem dX9_dead_55 : decode cX9_dead 55 = .ok (.aload_n 0, 1) := by decide +kernel
theorem dX9_dead_56 : decode cX9_dead 56 = .ok (.iload_n 2, 1) := by decide +kernel
theorem dX9_dead_57 : decode cX9_dead 57 = .ok (.iload_n 3, 1) := by decide +kernel
theorem dX9_dead_58 : decode cX9_dead 58 = .ok (.invokevirtual 157, 3) := by decide +kernel
theorem dX9_dead_61 : decode cX9_dead 61 = .ok (.ifCond .eq 7, 3) := by decide +kernel
theorem dX9_dead_64 : decode cX9_dead 64 = .ok (.iconst 1, 1) := by decide +kernel
theorem dX9_dead_65 : decode cX9_dead 65 = .ok (.goto 4, 3) := by decide +kernel
theorem dX9_dead_68 : decode cX9_dead 68 = .ok (.iconst 0, 1) := by decide +kernel
theorem dX9_dead_69 : decode cX9_dead 69 = .ok (.ireturn, 1) := by decide +kernel
theorem dX9_wakes_0 : decode cX9_wakes 0 = .ok (.iload_n 1, 1) := by decide +kernel
theorem dX9_wakes_1 : decode cX9_wakes 1 = .ok (.invokestatic 129, 3) := by decide +kernel
theorem dX9_wakes_4 : decode cX9_wakes 4 = .ok (.ifCond .eq 11, 3) := by decide +kernel
theorem dX9_wakes_7 : decode cX9_wakes 7 = .ok (.aload_n 0, 1) := by decide +kernel
theorem dX9_wakes_8 : decode cX9_wakes 8 = .ok (.iload_n 2, 1) := by decide +kernel
theorem dX9_wakes_9 : decode cX9_wakes 9 = .ok (.invokevirtual 102, 3) := by decide +kernel
theorem dX9_wakes_12 : decode cX9_wakes 12 = .ok (.ifCond .ne 5, 3) := by decide +kernel
theorem dX9_wakes_15 : decode cX9_wakes 15 = .ok (.iconst (-1), 1) := by decide +kernel
theorem dX9_wakes_16 : decode cX9_wakes 16 = .ok (.ireturn, 1) := by decide +kernel
theorem dX9_wakes_17 : decode cX9_wakes 17 = .ok (.aload_n 0, 1) := by decide +kernel
theorem dX9_wakes_18 : decode cX9_wakes 18 = .ok (.iload_n 1, 1) := by decide +kernel
theorem dX9_wakes_19 : decode cX9_wakes 19 = .ok (.sipush 299, 3) := by decide +kernel
theorem dX9_wakes_22 : decode cX9_wakes 22 = .ok (.invokevirtual 186, 3) := by decide +kernel
theorem dX9_wakes_25 : decode cX9_wakes 25 = .ok (.aload_n 0, 1) := by decide +kernel
theorem dX9_wakes_26 : decode cX9_wakes 26 = .ok (.getfield 38, 3) := by decide +kernel
theorem dX9_wakes_29 : decode cX9_wakes 29 = .ok (.iload_n 2, 1) := by decide +kernel
theorem dX9_wakes_30 : decode cX9_wakes 30 = .ok (.iaload, 1) := by decide +kernel
theorem dX9_wakes_31 : decode cX9_wakes 31 = .ok (.ireturn, 1) := by decide +kernel
theorem dX9_free_0 : decode cX9_free 0 = .ok (.iload_n 1, 1) := by decide +kernel
theorem dX9_free_1 : decode cX9_free 1 = .ok (.invokestatic 129, 3) := by decide +kernel
theorem dX9_free_4 : decode cX9_free 4 = .ok (.ifCond .eq 15, 3) := by decide +kernel
theorem dX9_free_7 : decode cX9_free 7 = .ok (.iload_n 2, 1) := by decide +kernel
theorem dX9_free_8 : decode cX9_free 8 = .ok (.i2l, 1) := by decide +kernel
theorem dX9_free_9 : decode cX9_free 9 = .ok (.lconst 0, 1) := by decide +kernel
theorem dX9_free_10 : decode cX9_free 10 = .ok (.ldc2_w 105, 3) := by decide +kernel
theorem dX9_free_13 : decode cX9_free 13 = .ok (.invokestatic 83, 3) := by decide +kernel
theorem dX9_free_16 : decode cX9_free 16 = .ok (.ifCond .ne 5, 3) := by decide +kernel
theorem dX9_free_19 : decode cX9_free 19 = .ok (.iconst (-1), 1) := by decide +kernel
theorem dX9_free_20 : decode cX9_free 20 = .ok (.ireturn, 1) := by decide +kernel
theorem dX9_free_21 : decode cX9_free 21 = .ok (.iconst 0, 1) := by decide +kernel
theorem dX9_free_22 : decode cX9_free 22 = .ok (.istore_n 3, 1) := by decide +kernel
theorem dX9_free_23 : decode cX9_free 23 = .ok (.iconst 0, 1) := by decide +kernel
theorem dX9_free_24 : decode cX9_free 24 = .ok (.istore 4, 2) := by decide +kernel
theorem dX9_free_26 : decode cX9_free 26 = .ok (.iload 4, 2) := by decide +kernel
theorem dX9_free_28 : decode cX9_free 28 = .ok (.aload_n 0, 1) := by decide +kernel
theorem dX9_free_29 : decode cX9_free 29 = .ok (.getfield 87, 3) := by decide +kernel
theorem dX9_free_32 : decode cX9_free 32 = .ok (.if_icmp .ge 33, 3) := by decide +kernel
theorem dX9_free_35 : decode cX9_free 35 = .ok (.iload_n 3, 1) := by decide +kernel
theorem dX9_free_36 : decode cX9_free 36 = .ok (.aload_n 0, 1) := by decide +kernel
theorem dX9_free_37 : decode cX9_free 37 = .ok (.getfield 7, 3) := by decide +kernel
theorem dX9_free_40 : decode cX9_free 40 = .ok (.bipush 8, 2) := by decide +kernel
theorem dX9_free_42 : decode cX9_free 42 = .ok (.iload 4, 2) := by decide +kernel
theorem dX9_free_44 : decode cX9_free 44 = .ok (.imul, 1) := by decide +kernel
theorem dX9_free_45 : decode cX9_free 45 = .ok (.iconst 5, 1) := by decide +kernel
theorem dX9_free_46 : decode cX9_free 46 = .ok (.iadd, 1) := by decide +kernel
theorem dX9_free_47 : decode cX9_free 47 = .ok (.iaload, 1) := by decide +kernel
theorem dX9_free_48 : decode cX9_free 48 = .ok (.iload_n 2, 1) := by decide +kernel
theorem dX9_free_49 : decode cX9_free 49 = .ok (.if_icmp .ne 7, 3) := by decide +kernel
theorem dX9_free_52 : decode cX9_free 52 = .ok (.iconst 1, 1) := by decide +kernel
theorem dX9_free_53 : decode cX9_free 53 = .ok (.goto 4, 3) := by decide +kernel
theorem dX9_free_56 : decode cX9_free 56 = .ok (.iconst 0, 1) := by decide +kernel
theorem dX9_free_57 : decode cX9_free 57 = .ok (.iadd, 1) := by decide +kernel
theorem dX9_free_58 : decode cX9_free 58 = .ok (.istore_n 3, 1) := by decide +kernel
theorem dX9_free_59 : decode cX9_free 59 = .ok (.iinc 4 1, 3) := by decide +kernel
theorem dX9_free_62 : decode cX9_free 62 = .ok (.goto (-36), 3) := by decide +kernel
theorem dX9_free_65 : decode cX9_free 65 = .ok (.iload_n 3, 1) := by decide +kernel
theorem dX9_free_66 : decode cX9_free 66 = .ok (.ifCond .ne 6, 3) := by decide +kernel
theorem dX9_free_69 : decode cX9_free 69 = .ok (.bipush (-2), 2) := by decide +kernel
theorem dX9_free_71 : decode cX9_free 71 = .ok (.ireturn, 1) := by decide +kernel
theorem dX9_free_72 : decode cX9_free 72 = .ok (.iconst 0, 1) := by decide +kernel
theorem dX9_free_73 : decode cX9_free 73 = .ok (.istore 4, 2) := by decide +kernel
theorem dX9_free_75 : decode cX9_free 75 = .ok (.aload_n 0, 1) := by decide +kernel
theorem dX9_free_76 : decode cX9_free 76 = .ok (.invokevirtual 180, 3) := by decide +kernel
theorem dX9_free_79 : decode cX9_free 79 = .ok (.iconst 0, 1) := by decide +kernel
theorem dX9_free_80 : decode cX9_free 80 = .ok (.istore 5, 2) := by decide +kernel
theorem dX9_free_82 : decode cX9_free 82 = .ok (.iload 5, 2) := by decide +kernel
theorem dX9_free_84 : decode cX9_free 84 = .ok (.sipush 299, 3) := by decide +kernel
theorem dX9_free_87 : decode cX9_free 87 = .ok (.if_icmp .gt 101, 3) := by decide +kernel
theorem dX9_free_90 : decode cX9_free 90 = .ok (.aload_n 0, 1) := by decide +kernel
theorem dX9_free_91 : decode cX9_free 91 = .ok (.iload_n 1, 1) := by decide +kernel
theorem dX9_free_92 : decode cX9_free 92 = .ok (.iload 5, 2) := by decide +kernel
theorem dX9_free_94 : decode cX9_free 94 = .ok (.invokevirtual 183, 3) := by decide +kernel
theorem dX9_free_97 : decode cX9_free 97 = .ok (.iconst 0, 1) := by decide +kernel
theorem dX9_free_98 : decode cX9_free 98 = .ok (.istore 6, 2) := by decide +kernel
theorem dX9_free_100 : decode cX9_free 100 = .ok (.iload 6, 2) := by decide +kernel
theorem dX9_free_102 : decode cX9_free 102 = .ok (.aload_n 0, 1) := by decide +kernel
theorem dX9_free_103 : decode cX9_free 103 = .ok (.getfield 87, 3) := by decide +kernel
theorem dX9_free_106 : decode cX9_free 106 = .ok (.if_icmp .ge 76, 3) := by decide +kernel
theorem dX9_free_109 : decode cX9_free 109 = .ok (.aload_n 0, 1) := by decide +kernel
theorem dX9_free_110 : decode cX9_free 110 = .ok (.getfield 7, 3) := by decide +kernel
theorem dX9_free_113 : decode cX9_free 113 = .ok (.bipush 8, 2) := by decide +kernel
theorem dX9_free_115 : decode cX9_free 115 = .ok (.iload 6, 2) := by decide +kernel
theorem dX9_free_117 : decode cX9_free 117 = .ok (.imul, 1) := by decide +kernel
theorem dX9_free_118 : decode cX9_free 118 = .ok (.iconst 5, 1) := by decide +kernel
theorem dX9_free_119 : decode cX9_free 119 = .ok (.iadd, 1) := by decide +kernel
theorem dX9_free_120 : decode cX9_free 120 = .ok (.iaload, 1) := by decide +kernel
theorem dX9_free_121 : decode cX9_free 121 = .ok (.iload_n 2, 1) := by decide +kernel
theorem dX9_free_122 : decode cX9_free 122 = .ok (.if_icmp .ne 35, 3) := by decide +kernel
theorem dX9_free_125 : decode cX9_free 125 = .ok (.iload 5, 2) := by decide +kernel
theorem dX9_free_127 : decode cX9_free 127 = .ok (.aload_n 0, 1) := by decide +kernel
theorem dX9_free_128 : decode cX9_free 128 = .ok (.getfield 7, 3) := by decide +kernel
theorem dX9_free_131 : decode cX9_free 131 = .ok (.bipush 8, 2) := by decide +kernel
theorem dX9_free_133 : decode cX9_free 133 = .ok (.iload 6, 2) := by decide +kernel
theorem dX9_free_135 : decode cX9_free 135 = .ok (.imul, 1) := by decide +kernel
theorem dX9_free_136 : decode cX9_free 136 = .ok (.iconst 1, 1) := by decide +kernel
theorem dX9_free_137 : decode cX9_free 137 = .ok (.iadd, 1) := by decide +kernel
theorem dX9_free_138 : decode cX9_free 138 = .ok (.iaload, 1) := by decide +kernel
theorem dX9_free_139 : decode cX9_free 139 = .ok (.if_icmp .lt 14, 3) := by decide +kernel
theorem dX9_free_142 : decode cX9_free 142 = .ok (.aload_n 0, 1) := by decide +kernel
theorem dX9_free_143 : decode cX9_free 143 = .ok (.iload 6, 2) := by decide +kernel
theorem dX9_free_145 : decode cX9_free 145 = .ok (.invokevirtual 137, 3) := by decide +kernel
theorem dX9_free_148 : decode cX9_free 148 = .ok (.lconst 0, 1) := by decide +kernel
theorem dX9_free_149 : decode cX9_free 149 = .ok (.lcmp, 1) := by decide +kernel
theorem dX9_free_150 : decode cX9_free 150 = .ok (.ifCond .le 7, 3) := by decide +kernel
theorem dX9_free_153 : decode cX9_free 153 = .ok (.iconst 1, 1) := by decide +kernel
theorem dX9_free_154 : decode cX9_free 154 = .ok (.goto 4, 3) := by decide +kernel
theorem dX9_free_157 : decode cX9_free 157 = .ok (.iconst 0, 1) := by decide +kernel
theorem dX9_free_158 : decode cX9_free 158 = .ok (.istore 7, 2) := by decide +kernel
theorem dX9_free_160 : decode cX9_free 160 = .ok (.iload 7, 2) := by decide +kernel
theorem dX9_free_162 : decode cX9_free 162 = .ok (.ifCond .eq 10, 3) := by decide +kernel
theorem dX9_free_165 : decode cX9_free 165 = .ok (.iload 5, 2) := by decide +kernel
theorem dX9_free_167 : decode cX9_free 167 = .ok (.iconst 1, 1) := by decide +kernel
theorem dX9_free_168 : decode cX9_free 168 = .ok (.iadd, 1) := by decide +kernel
theorem dX9_free_169 : decode cX9_free 169 = .ok (.goto 5, 3) := by decide +kernel
theorem dX9_free_172 : decode cX9_free 172 = .ok (.iload 4, 2) := by decide +kernel
theorem dX9_free_174 : decode cX9_free 174 = .ok (.istore 4, 2) := by decide +kernel
theorem dX9_free_176 : decode cX9_free 176 = .ok (.iinc 6 1, 3) := by decide +kernel
theorem dX9_free_179 : decode cX9_free 179 = .ok (.goto (-79), 3) := by decide +kernel
theorem dX9_free_182 : decode cX9_free 182 = .ok (.iinc 5 1, 3) := by decide +kernel
theorem dX9_free_185 : decode cX9_free 185 = .ok (.goto (-103), 3) := by decide +kernel
theorem dX9_free_188 : decode cX9_free 188 = .ok (.iload 4, 2) := by decide +kernel
theorem dX9_free_190 : decode cX9_free 190 = .ok (.sipush 299, 3) := by decide +kernel
theorem dX9_free_193 : decode cX9_free 193 = .ok (.if_icmp .le 8, 3) := by decide +kernel
theorem dX9_free_196 : decode cX9_free 196 = .ok (.bipush (-4), 2) := by decide +kernel
theorem dX9_free_198 : decode cX9_free 198 = .ok (.goto 5, 3) := by decide +kernel
theorem dX9_free_201 : decode cX9_free 201 = .ok (.iload 4, 2) := by decide +kernel
theorem dX9_free_203 : decode cX9_free 203 = .ok (.ireturn, 1) := by decide +kernel
theorem dX9_rank_0 : decode cX9_rank 0 = .ok (.iload_n 1, 1) := by decide +kernel
theorem dX9_rank_1 : decode cX9_rank 1 = .ok (.invokestatic 129, 3) := by decide +kernel
theorem dX9_rank_4 : decode cX9_rank 4 = .ok (.ifCond .eq 14, 3) := by decide +kernel
theorem dX9_rank_7 : decode cX9_rank 7 = .ok (.iload_n 2, 1) := by decide +kernel
theorem dX9_rank_8 : decode cX9_rank 8 = .ok (.invokestatic 96, 3) := by decide +kernel
theorem dX9_rank_11 : decode cX9_rank 11 = .ok (.ifCond .eq 7, 3) := by decide +kernel
theorem dX9_rank_14 : decode cX9_rank 14 = .ok (.iload_n 3, 1) := by decide +kernel
theorem dX9_rank_15 : decode cX9_rank 15 = .ok (.ifCond .ge 5, 3) := by decide +kernel
theorem dX9_rank_18 : decode cX9_rank 18 = .ok (.iconst (-1), 1) := by decide +kernel
theorem dX9_rank_19 : decode cX9_rank 19 = .ok (.ireturn, 1) := by decide +kernel
theorem dX9_rank_20 : decode cX9_rank 20 = .ok (.aload_n 0, 1) := by decide +kernel
theorem dX9_rank_21 : decode cX9_rank 21 = .ok (.iload_n 1, 1) := by decide +kernel
theorem dX9_rank_22 : decode cX9_rank 22 = .ok (.iload_n 2, 1) := by decide +kernel
theorem dX9_rank_23 : decode cX9_rank 23 = .ok (.invokevirtual 186, 3) := by decide +kernel
theorem dX9_rank_26 : decode cX9_rank 26 = .ok (.iconst 0, 1) := by decide +kernel
theorem dX9_rank_27 : decode cX9_rank 27 = .ok (.istore 4, 2) := by decide +kernel
theorem dX9_rank_29 : decode cX9_rank 29 = .ok (.iload 4, 2) := by decide +kernel
theorem dX9_rank_31 : decode cX9_rank 31 = .ok (.aload_n 0, 1) := by decide +kernel
theorem dX9_rank_32 : decode cX9_rank 32 = .ok (.getfield 87, 3) := by decide +kernel
theorem dX9_rank_35 : decode cX9_rank 35 = .ok (.if_icmp .ge 23, 3) := by decide +kernel
theorem dX9_rank_38 : decode cX9_rank 38 = .ok (.aload_n 0, 1) := by decide +kernel
theorem dX9_rank_39 : decode cX9_rank 39 = .ok (.getfield 47, 3) := by decide +kernel
theorem dX9_rank_42 : decode cX9_rank 42 = .ok (.iload 4, 2) := by decide +kernel
theorem dX9_rank_44 : decode cX9_rank 44 = .ok (.aload_n 0, 1) := by decide +kernel
theorem dX9_rank_45 : decode cX9_rank 45 = .ok (.iload 4, 2) := by decide +kernel
theorem dX9_rank_47 : decode cX9_rank 47 = .ok (.iload_n 2, 1) := by decide +kernel
theorem dX9_rank_48 : decode cX9_rank 48 = .ok (.invokevirtual 157, 3) := by decide +kernel
theorem dX9_rank_51 : decode cX9_rank 51 = .ok (.bastore, 1) := by decide +kernel
theorem dX9_rank_52 : decode cX9_rank 52 = .ok (.iinc 4 1, 3) := by decide +kernel
theorem dX9_rank_55 : decode cX9_rank 55 = .ok (.goto (-26), 3) := by decide +kernel
theorem dX9_rank_58 : decode cX9_rank 58 = .ok (.aload_n 0, 1) := by decide +kernel
theorem dX9_rank_59 : decode cX9_rank 59 = .ok (.iload_n 1, 1) := by decide +kernel
theorem dX9_rank_60 : decode cX9_rank 60 = .ok (.iload_n 2, 1) := by decide +kernel
theorem dX9_rank_61 : decode cX9_rank 61 = .ok (.invokevirtual 160, 3) := by decide +kernel
theorem dX9_rank_64 : decode cX9_rank 64 = .ok (.istore 4, 2) := by decide +kernel
theorem dX9_rank_66 : decode cX9_rank 66 = .ok (.iload_n 3, 1) := by decide +kernel
theorem dX9_rank_67 : decode cX9_rank 67 = .ok (.iload 4, 2) := by decide +kernel
theorem dX9_rank_69 : decode cX9_rank 69 = .ok (.if_icmp .ge 12, 3) := by decide +kernel
theorem dX9_rank_72 : decode cX9_rank 72 = .ok (.aload_n 0, 1) := by decide +kernel
theorem dX9_rank_73 : decode cX9_rank 73 = .ok (.getfield 51, 3) := by decide +kernel
theorem dX9_rank_76 : decode cX9_rank 76 = .ok (.iload_n 3, 1) := by decide +kernel
theorem dX9_rank_77 : decode cX9_rank 77 = .ok (.iaload, 1) := by decide +kernel
theorem dX9_rank_78 : decode cX9_rank 78 = .ok (.goto 5, 3) := by decide +kernel
theorem dX9_rank_81 : decode cX9_rank 81 = .ok (.bipush (-4), 2) := by decide +kernel
theorem dX9_rank_83 : decode cX9_rank 83 = .ok (.ireturn, 1) := by decide +kernel
theorem dX9_findWords_0 : decode cX9_findWords 0 = .ok (.iconst 1, 1) := by decide +kernel
theorem dX9_findWords_1 : decode cX9_findWords 1 = .ok (.istore 4, 2) := by decide +kernel
theorem dX9_findWords_3 : decode cX9_findWords 3 = .ok (.iconst 0, 1) := by decide +kernel
theorem dX9_findWords_4 : decode cX9_findWords 4 = .ok (.istore 5, 2) := by decide +kernel
theorem dX9_findWords_6 : decode cX9_findWords 6 = .ok (.iload 5, 2) := by decide +kernel
theorem dX9_findWords_8 : decode cX9_findWords 8 = .ok (.iload_n 2, 1) := by decide +kernel
theorem dX9_findWords_9 : decode cX9_findWords 9 = .ok (.if_icmp .ge 38, 3) := by decide +kernel
theorem dX9_findWords_12 : decode cX9_findWords 12 = .ok (.aload_n 0, 1) := by decide +kernel
theorem dX9_findWords_13 : decode cX9_findWords 13 = .ok (.getfield 63, 3) := by decide +kernel
theorem dX9_findWords_16 : decode cX9_findWords 16 = .ok (.iload 5, 2) := by decide +kernel
theorem dX9_findWords_18 : decode cX9_findWords 18 = .ok (.aload_n 0, 1) := by decide +kernel
theorem dX9_findWords_19 : decode cX9_findWords 19 = .ok (.getfield 13, 3) := by decide +kernel
theorem dX9_findWords_22 : decode cX9_findWords 22 = .ok (.iconst 4, 1) := by decide +kernel
theorem dX9_findWords_23 : decode cX9_findWords 23 = .ok (.iload 5, 2) := by decide +kernel
theorem dX9_findWords_25 : decode cX9_findWords 25 = .ok (.imul, 1) := by decide +kernel
theorem dX9_findWords_26 : decode cX9_findWords 26 = .ok (.iconst 2, 1) := by decide +kernel
theorem dX9_findWords_27 : decode cX9_findWords 27 = .ok (.iadd, 1) := by decide +kernel
theorem dX9_findWords_28 : decode cX9_findWords 28 = .ok (.iaload, 1) := by decide +kernel
theorem dX9_findWords_29 : decode cX9_findWords 29 = .ok (.iastore, 1) := by decide +kernel
theorem dX9_findWords_30 : decode cX9_findWords 30 = .ok (.iload 4, 2) := by decide +kernel
theorem dX9_findWords_32 : decode cX9_findWords 32 = .ok (.aload_n 0, 1) := by decide +kernel
theorem dX9_findWords_33 : decode cX9_findWords 33 = .ok (.getfield 87, 3) := by decide +kernel
theorem dX9_findWords_36 : decode cX9_findWords 36 = .ok (.iconst 1, 1) := by decide +kernel
theorem dX9_findWords_37 : decode cX9_findWords 37 = .ok (.iadd, 1) := by decide +kernel
theorem dX9_findWords_38 : decode cX9_findWords 38 = .ok (.imul, 1) := by decide +kernel
theorem dX9_findWords_39 : decode cX9_findWords 39 = .ok (.istore 4, 2) := by decide +kernel
theorem dX9_findWords_41 : decode cX9_findWords 41 = .ok (.iinc 5 1, 3) := by decide +kernel
theorem dX9_findWords_44 : decode cX9_findWords 44 = .ok (.goto (-38), 3) := by decide +kernel
theorem dX9_findWords_47 : decode cX9_findWords 47 = .ok (.aload_n 0, 1) := by decide +kernel
theorem dX9_findWords_48 : decode cX9_findWords 48 = .ok (.ldc2_w 107, 3) := by decide +kernel
theorem dX9_findWords_51 : decode cX9_findWords 51 = .ok (.putfield 199, 3) := by decide +kernel
theorem dX9_findWords_54 : decode cX9_findWords 54 = .ok (.iconst 0, 1) := by decide +kernel
theorem dX9_findWords_55 : decode cX9_findWords 55 = .ok (.istore 5, 2) := by decide +kernel
theorem dX9_findWords_57 : decode cX9_findWords 57 = .ok (.iload 5, 2) := by decide +kernel
theorem dX9_findWords_59 : decode cX9_findWords 59 = .ok (.iload 4, 2) := by decide +kernel
theorem dX9_findWords_61 : decode cX9_findWords 61 = .ok (.if_icmp .ge 128, 3) := by decide +kernel
theorem dX9_findWords_64 : decode cX9_findWords 64 = .ok (.iload 5, 2) := by decide +kernel
theorem dX9_findWords_66 : decode cX9_findWords 66 = .ok (.istore 6, 2) := by decide +kernel
theorem dX9_findWords_68 : decode cX9_findWords 68 = .ok (.iload_n 2, 1) := by decide +kernel
theorem dX9_findWords_69 : decode cX9_findWords 69 = .ok (.iconst 1, 1) := by decide +kernel
theorem dX9_findWords_70 : decode cX9_findWords 70 = .ok (.isub, 1) := by decide +kernel
theorem dX9_findWords_71 : decode cX9_findWords 71 = .ok (.istore 7, 2) := by decide +kernel
theorem dX9_findWords_73 : decode cX9_findWords 73 = .ok (.iload 7, 2) := by decide +kernel
theorem dX9_findWords_75 : decode cX9_findWords 75 = .ok (.ifCond .lt 42, 3) := by decide +kernel
theorem dX9_findWords_78 : decode cX9_findWords 78 = .ok (.aload_n 0, 1) := by decide +kernel
theorem dX9_findWords_79 : decode cX9_findWords 79 = .ok (.getfield 13, 3) := by decide +kernel
theorem dX9_findWords_82 : decode cX9_findWords 82 = .ok (.iconst 4, 1) := by decide +kernel
theorem dX9_findWords_83 : decode cX9_findWords 83 = .ok (.iload 7, 2) := by decide +kernel
theorem dX9_findWords_85 : decode cX9_findWords 85 = .ok (.imul, 1) := by decide +kernel
theorem dX9_findWords_86 : decode cX9_findWords 86 = .ok (.iconst 2, 1) := by decide +kernel
theorem dX9_findWords_87 : decode cX9_findWords 87 = .ok (.iadd, 1) := by decide +kernel
theorem dX9_findWords_88 : decode cX9_findWords 88 = .ok (.iload 6, 2) := by decide +kernel
theorem dX9_findWords_90 : decode cX9_findWords 90 = .ok (.aload_n 0, 1) := by decide +kernel
theorem dX9_findWords_91 : decode cX9_findWords 91 = .ok (.getfield 87, 3) := by decide +kernel
theorem dX9_findWords_94 : decode cX9_findWords 94 = .ok (.iconst 1, 1) := by decide +kernel
theorem dX9_findWords_95 : decode cX9_findWords 95 = .ok (.iadd, 1) := by decide +kernel
theorem dX9_findWords_96 : decode cX9_findWords 96 = .ok (.irem, 1) := by decide +kernel
theorem dX9_findWords_97 : decode cX9_findWords 97 = .ok (.iconst 1, 1) := by decide +kernel
theorem dX9_findWords_98 : decode cX9_findWords 98 = .ok (.isub, 1) := by decide +kernel
theorem dX9_findWords_99 : decode cX9_findWords 99 = .ok (.iastore, 1) := by decide +kernel
theorem dX9_findWords_100 : decode cX9_findWords 100 = .ok (.iload 6, 2) := by decide +kernel
theorem dX9_findWords_102 : decode cX9_findWords 102 = .ok (.aload_n 0, 1) := by decide +kernel
theorem dX9_findWords_103 : decode cX9_findWords 103 = .ok (.getfield 87, 3) := by decide +kernel
theorem dX9_findWords_106 : decode cX9_findWords 106 = .ok (.iconst 1, 1) := by decide +kernel
theorem dX9_findWords_107 : decode cX9_findWords 107 = .ok (.iadd, 1) := by decide +kernel
theorem dX9_findWords_108 : decode cX9_findWords 108 = .ok (.idiv, 1) := by decide +kernel
theorem dX9_findWords_109 : decode cX9_findWords 109 = .ok (.istore 6, 2) := by decide +kernel
theorem dX9_findWords_111 : decode cX9_findWords 111 = .ok (.iinc 7 (-1), 3) := by decide +kernel
theorem dX9_findWords_114 : decode cX9_findWords 114 = .ok (.goto (-41), 3) := by decide +kernel
theorem dX9_findWords_117 : decode cX9_findWords 117 = .ok (.aload_n 0, 1) := by decide +kernel
theorem dX9_findWords_118 : decode cX9_findWords 118 = .ok (.iload_n 1, 1) := by decide +kernel
theorem dX9_findWords_119 : decode cX9_findWords 119 = .ok (.iload_n 3, 1) := by decide +kernel
theorem dX9_findWords_120 : decode cX9_findWords 120 = .ok (.invokevirtual 195, 3) := by decide +kernel
theorem dX9_findWords_123 : decode cX9_findWords 123 = .ok (.lstore 7, 2) := by decide +kernel
theorem dX9_findWords_125 : decode cX9_findWords 125 = .ok (.aload_n 0, 1) := by decide +kernel
theorem dX9_findWords_126 : decode cX9_findWords 126 = .ok (.getfield 199, 3) := by decide +kernel
theorem dX9_findWords_129 : decode cX9_findWords 129 = .ok (.lconst 0, 1) := by decide +kernel
theorem dX9_findWords_130 : decode cX9_findWords 130 = .ok (.lcmp, 1) := by decide +kernel
theorem dX9_findWords_131 : decode cX9_findWords 131 = .ok (.ifCond .lt 13, 3) := by decide +kernel
theorem dX9_findWords_134 : decode cX9_findWords 134 = .ok (.lload 7, 2) := by decide +kernel
theorem dX9_findWords_136 : decode cX9_findWords 136 = .ok (.aload_n 0, 1) := by decide +kernel
theorem dX9_findWords_137 : decode cX9_findWords 137 = .ok (.getfield 199, 3) := by decide +kernel
theorem dX9_findWords_140 : decode cX9_findWords 140 = .ok (.lcmp, 1) := by decide +kernel
theorem dX9_findWords_141 : decode cX9_findWords 141 = .ok (.ifCond .ge 42, 3) := by decide +kernel
theorem dX9_findWords_144 : decode cX9_findWords 144 = .ok (.aload_n 0, 1) := by decide +kernel
theorem dX9_findWords_145 : decode cX9_findWords 145 = .ok (.lload 7, 2) := by decide +kernel
theorem dX9_findWords_147 : decode cX9_findWords 147 = .ok (.putfield 199, 3) := by decide +kernel
theorem dX9_findWords_150 : decode cX9_findWords 150 = .ok (.iconst 0, 1) := by decide +kernel
theorem dX9_findWords_151 : decode cX9_findWords 151 = .ok (.istore 9, 2) := by decide +kernel
theorem dX9_findWords_153 : decode cX9_findWords 153 = .ok (.iload 9, 2) := by decide +kernel
theorem dX9_findWords_155 : decode cX9_findWords 155 = .ok (.iload_n 2, 1) := by decide +kernel
theorem dX9_findWords_156 : decode cX9_findWords 156 = .ok (.if_icmp .ge 27, 3) := by decide +kernel
theorem dX9_findWords_159 : decode cX9_findWords 159 = .ok (.aload_n 0, 1) := by decide +kernel
theorem dX9_findWords_160 : decode cX9_findWords 160 = .ok (.getfield 60, 3) := by decide +kernel
theorem dX9_findWords_163 : decode cX9_findWords 163 = .ok (.iload 9, 2) := by decide +kernel
theorem dX9_findWords_165 : decode cX9_findWords 165 = .ok (.aload_n 0, 1) := by decide +kernel
theorem dX9_findWords_166 : decode cX9_findWords 166 = .ok (.getfield 13, 3) := by decide +kernel
theorem dX9_findWords_169 : decode cX9_findWords 169 = .ok (.iconst 4, 1) := by decide +kernel
theorem dX9_findWords_170 : decode cX9_findWords 170 = .ok (.iload 9, 2) := by decide +kernel
theorem dX9_findWords_172 : decode cX9_findWords 172 = .ok (.imul, 1) := by decide +kernel
theorem dX9_findWords_173 : decode cX9_findWords 173 = .ok (.iconst 2, 1) := by decide +kernel
theorem dX9_findWords_174 : decode cX9_findWords 174 = .ok (.iadd, 1) := by decide +kernel
theorem dX9_findWords_175 : decode cX9_findWords 175 = .ok (.iaload, 1) := by decide +kernel
theorem dX9_findWords_176 : decode cX9_findWords 176 = .ok (.iastore, 1) := by decide +kernel
theorem dX9_findWords_177 : decode cX9_findWords 177 = .ok (.iinc 9 1, 3) := by decide +kernel
theorem dX9_findWords_180 : decode cX9_findWords 180 = .ok (.goto (-27), 3) := by decide +kernel
theorem dX9_findWords_183 : decode cX9_findWords 183 = .ok (.iinc 5 1, 3) := by decide +kernel
theorem dX9_findWords_186 : decode cX9_findWords 186 = .ok (.goto (-129), 3) := by decide +kernel
theorem dX9_findWords_189 : decode cX9_findWords 189 = .ok (.iconst 0, 1) := by decide +kernel
theorem dX9_findWords_190 : decode cX9_findWords 190 = .ok (.istore 5, 2) := by decide +kernel
theorem dX9_findWords_192 : decode cX9_findWords 192 = .ok (.iload 5, 2) := by decide +kernel
theorem dX9_findWords_194 : decode cX9_findWords 194 = .ok (.iload_n 2, 1) := by decide +kernel
theorem dX9_findWords_195 : decode cX9_findWords 195 = .ok (.if_icmp .ge 27, 3) := by decide +kernel
theorem dX9_findWords_198 : decode cX9_findWords 198 = .ok (.aload_n 0, 1) := by decide +kernel
theorem dX9_findWords_199 : decode cX9_findWords 199 = .ok (.getfield 13, 3) := by decide +kernel
theorem dX9_findWords_202 : decode cX9_findWords 202 = .ok (.iconst 4, 1) := by decide +kernel
theorem dX9_findWords_203 : decode cX9_findWords 203 = .ok (.iload 5, 2) := by decide +kernel
theorem dX9_findWords_205 : decode cX9_findWords 205 = .ok (.imul, 1) := by decide +kernel
theorem dX9_findWords_206 : decode cX9_findWords 206 = .ok (.iconst 2, 1) := by decide +kernel
theorem dX9_findWords_207 : decode cX9_findWords 207 = .ok (.iadd, 1) := by decide +kernel
theorem dX9_findWords_208 : decode cX9_findWords 208 = .ok (.aload_n 0, 1) := by decide +kernel
theorem dX9_findWords_209 : decode cX9_findWords 209 = .ok (.getfield 63, 3) := by decide +kernel
theorem dX9_findWords_212 : decode cX9_findWords 212 = .ok (.iload 5, 2) := by decide +kernel
theorem dX9_findWords_214 : decode cX9_findWords 214 = .ok (.iaload, 1) := by decide +kernel
theorem dX9_findWords_215 : decode cX9_findWords 215 = .ok (.iastore, 1) := by decide +kernel
theorem dX9_findWords_216 : decode cX9_findWords 216 = .ok (.iinc 5 1, 3) := by decide +kernel
theorem dX9_findWords_219 : decode cX9_findWords 219 = .ok (.goto (-27), 3) := by decide +kernel
theorem dX9_findWords_222 : decode cX9_findWords 222 = .ok (.return_, 1) := by decide +kernel
theorem dX9_best_0 : decode cX9_best 0 = .ok (.iload_n 1, 1) := by decide +kernel
theorem dX9_best_1 : decode cX9_best 1 = .ok (.invokestatic 129, 3) := by decide +kernel
theorem dX9_best_4 : decode cX9_best 4 = .ok (.ifCond .eq 36, 3) := by decide +kernel
theorem dX9_best_7 : decode cX9_best 7 = .ok (.iload_n 2, 1) := by decide +kernel
theorem dX9_best_8 : decode cX9_best 8 = .ok (.i2l, 1) := by decide +kernel
theorem dX9_best_9 : decode cX9_best 9 = .ok (.lconst 1, 1) := by decide +kernel
theorem dX9_best_10 : decode cX9_best 10 = .ok (.ldc2_w 116, 3) := by decide +kernel
theorem dX9_best_13 : decode cX9_best 13 = .ok (.invokestatic 83, 3) := by decide +kernel
theorem dX9_best_16 : decode cX9_best 16 = .ok (.ifCond .eq 24, 3) := by decide +kernel
theorem dX9_best_19 : decode cX9_best 19 = .ok (.iload_n 3, 1) := by decide +kernel
theorem dX9_best_20 : decode cX9_best 20 = .ok (.invokestatic 96, 3) := by decide +kernel
theorem dX9_best_23 : decode cX9_best 23 = .ok (.ifCond .eq 17, 3) := by decide +kernel
theorem dX9_best_26 : decode cX9_best 26 = .ok (.iload 4, 2) := by decide +kernel
theorem dX9_best_28 : decode cX9_best 28 = .ok (.i2l, 1) := by decide +kernel
theorem dX9_best_29 : decode cX9_best 29 = .ok (.lconst 0, 1) := by decide +kernel
theorem dX9_best_30 : decode cX9_best 30 = .ok (.iload_n 2, 1) := by decide +kernel
theorem dX9_best_31 : decode cX9_best 31 = .ok (.iconst 1, 1) := by decide +kernel
theorem dX9_best_32 : decode cX9_best 32 = .ok (.isub, 1) := by decide +kernel
theorem dX9_best_33 : decode cX9_best 33 = .ok (.i2l, 1) := by decide +kernel
theorem dX9_best_34 : decode cX9_best 34 = .ok (.invokestatic 83, 3) := by decide +kernel
theorem dX9_best_37 : decode cX9_best 37 = .ok (.ifCond .ne 6, 3) := by decide +kernel
theorem dX9_best_40 : decode cX9_best 40 = .ok (.bipush (-101), 2) := by decide +kernel
theorem dX9_best_42 : decode cX9_best 42 = .ok (.ireturn, 1) := by decide +kernel
theorem dX9_best_43 : decode cX9_best 43 = .ok (.aload_n 0, 1) := by decide +kernel
theorem dX9_best_44 : decode cX9_best 44 = .ok (.getfield 91, 3) := by decide +kernel
theorem dX9_best_47 : decode cX9_best 47 = .ok (.iload_n 2, 1) := by decide +kernel
theorem dX9_best_48 : decode cX9_best 48 = .ok (.if_icmp .ge 6, 3) := by decide +kernel
theorem dX9_best_51 : decode cX9_best 51 = .ok (.bipush (-102), 2) := by decide +kernel
theorem dX9_best_53 : decode cX9_best 53 = .ok (.ireturn, 1) := by decide +kernel
theorem dX9_best_54 : decode cX9_best 54 = .ok (.aload_n 0, 1) := by decide +kernel
theorem dX9_best_55 : decode cX9_best 55 = .ok (.iload_n 1, 1) := by decide +kernel
theorem dX9_best_56 : decode cX9_best 56 = .ok (.iload_n 2, 1) := by decide +kernel
theorem dX9_best_57 : decode cX9_best 57 = .ok (.iload_n 3, 1) := by decide +kernel
theorem dX9_best_58 : decode cX9_best 58 = .ok (.invokevirtual 202, 3) := by decide +kernel
theorem dX9_best_61 : decode cX9_best 61 = .ok (.aload_n 0, 1) := by decide +kernel
theorem dX9_best_62 : decode cX9_best 62 = .ok (.getfield 60, 3) := by decide +kernel
theorem dX9_best_65 : decode cX9_best 65 = .ok (.iload 4, 2) := by decide +kernel
theorem dX9_best_67 : decode cX9_best 67 = .ok (.iaload, 1) := by decide +kernel
theorem dX9_best_68 : decode cX9_best 68 = .ok (.ireturn, 1) := by decide +kernel
theorem dX9_least_0 : decode cX9_least 0 = .ok (.iload_n 1, 1) := by decide +kernel
theorem dX9_least_1 : decode cX9_least 1 = .ok (.invokestatic 129, 3) := by decide +kernel
theorem dX9_least_4 : decode cX9_least 4 = .ok (.ifCond .eq 22, 3) := by decide +kernel
theorem dX9_least_7 : decode cX9_least 7 = .ok (.iload_n 2, 1) := by decide +kernel
theorem dX9_least_8 : decode cX9_least 8 = .ok (.i2l, 1) := by decide +kernel
theorem dX9_least_9 : decode cX9_least 9 = .ok (.lconst 1, 1) := by decide +kernel
theorem dX9_least_10 : decode cX9_least 10 = .ok (.ldc2_w 116, 3) := by decide +kernel
theorem dX9_least_13 : decode cX9_least 13 = .ok (.invokestatic 83, 3) := by decide +kernel
theorem dX9_least_16 : decode cX9_least 16 = .ok (.ifCond .eq 10, 3) := by decide +kernel
theorem dX9_least_19 : decode cX9_least 19 = .ok (.iload_n 3, 1) := by decide +kernel
theorem dX9_least_20 : decode cX9_least 20 = .ok (.invokestatic 96, 3) := by decide +kernel
theorem dX9_least_23 : decode cX9_least 23 = .ok (.ifCond .ne 7, 3) := by decide +kernel
theorem dX9_least_26 : decode cX9_least 26 = .ok (.ldc2_w 107, 3) := by decide +kernel
theorem dX9_least_29 : decode cX9_least 29 = .ok (.lreturn, 1) := by decide +kernel
theorem dX9_least_30 : decode cX9_least 30 = .ok (.aload_n 0, 1) := by decide +kernel
theorem dX9_least_31 : decode cX9_least 31 = .ok (.getfield 91, 3) := by decide +kernel
theorem dX9_least_34 : decode cX9_least 34 = .ok (.iload_n 2, 1) := by decide +kernel
theorem dX9_least_35 : decode cX9_least 35 = .ok (.if_icmp .ge 7, 3) := by decide +kernel
theorem dX9_least_38 : decode cX9_least 38 = .ok (.ldc2_w 205, 3) := by decide +kernel
theorem dX9_least_41 : decode cX9_least 41 = .ok (.lreturn, 1) := by decide +kernel
theorem dX9_least_42 : decode cX9_least 42 = .ok (.aload_n 0, 1) := by decide +kernel
theorem dX9_least_43 : decode cX9_least 43 = .ok (.iload_n 1, 1) := by decide +kernel
theorem dX9_least_44 : decode cX9_least 44 = .ok (.iload_n 2, 1) := by decide +kernel
theorem dX9_least_45 : decode cX9_least 45 = .ok (.iload_n 3, 1) := by decide +kernel
theorem dX9_least_46 : decode cX9_least 46 = .ok (.invokevirtual 202, 3) := by decide +kernel
theorem dX9_least_49 : decode cX9_least 49 = .ok (.aload_n 0, 1) := by decide +kernel
theorem dX9_least_50 : decode cX9_least 50 = .ok (.getfield 199, 3) := by decide +kernel
theorem dX9_least_53 : decode cX9_least 53 = .ok (.lreturn, 1) := by decide +kernel
theorem dX9_answer_0 : decode cX9_answer 0 = .ok (.iload_n 1, 1) := by decide +kernel
theorem dX9_answer_1 : decode cX9_answer 1 = .ok (.invokestatic 129, 3) := by decide +kernel
theorem dX9_answer_4 : decode cX9_answer 4 = .ok (.ifCond .eq 18, 3) := by decide +kernel
theorem dX9_answer_7 : decode cX9_answer 7 = .ok (.aload_n 0, 1) := by decide +kernel
theorem dX9_answer_8 : decode cX9_answer 8 = .ok (.iload_n 2, 1) := by decide +kernel
theorem dX9_answer_9 : decode cX9_answer 9 = .ok (.invokevirtual 113, 3) := by decide +kernel
theorem dX9_answer_12 : decode cX9_answer 12 = .ok (.ifCond .eq 10, 3) := by decide +kernel
theorem dX9_answer_15 : decode cX9_answer 15 = .ok (.iload_n 3, 1) := by decide +kernel
theorem dX9_answer_16 : decode cX9_answer 16 = .ok (.invokestatic 96, 3) := by decide +kernel
theorem dX9_answer_19 : decode cX9_answer 19 = .ok (.ifCond .ne 6, 3) := by decide +kernel
theorem dX9_answer_22 : decode cX9_answer 22 = .ok (.bipush (-101), 2) := by decide +kernel
theorem dX9_answer_24 : decode cX9_answer 24 = .ok (.ireturn, 1) := by decide +kernel
theorem dX9_answer_25 : decode cX9_answer 25 = .ok (.aload_n 0, 1) := by decide +kernel
theorem dX9_answer_26 : decode cX9_answer 26 = .ok (.getfield 13, 3) := by decide +kernel
theorem dX9_answer_29 : decode cX9_answer 29 = .ok (.iconst 4, 1) := by decide +kernel
theorem dX9_answer_30 : decode cX9_answer 30 = .ok (.iload_n 2, 1) := by decide +kernel
theorem dX9_answer_31 : decode cX9_answer 31 = .ok (.imul, 1) := by decide +kernel
theorem dX9_answer_32 : decode cX9_answer 32 = .ok (.iconst 3, 1) := by decide +kernel
theorem dX9_answer_33 : decode cX9_answer 33 = .ok (.iadd, 1) := by decide +kernel
theorem dX9_answer_34 : decode cX9_answer 34 = .ok (.iaload, 1) := by decide +kernel
theorem dX9_answer_35 : decode cX9_answer 35 = .ok (.istore 4, 2) := by decide +kernel
theorem dX9_answer_37 : decode cX9_answer 37 = .ok (.iconst (-1), 1) := by decide +kernel
theorem dX9_answer_38 : decode cX9_answer 38 = .ok (.istore 5, 2) := by decide +kernel
theorem dX9_answer_40 : decode cX9_answer 40 = .ok (.ldc2_w 107, 3) := by decide +kernel
theorem dX9_answer_43 : decode cX9_answer 43 = .ok (.lstore 6, 2) := by decide +kernel
theorem dX9_answer_45 : decode cX9_answer 45 = .ok (.iconst (-1), 1) := by decide +kernel
theorem dX9_answer_46 : decode cX9_answer 46 = .ok (.istore 8, 2) := by decide +kernel
theorem dX9_answer_48 : decode cX9_answer 48 = .ok (.iload 8, 2) := by decide +kernel
theorem dX9_answer_50 : decode cX9_answer 50 = .ok (.aload_n 0, 1) := by decide +kernel
theorem dX9_answer_51 : decode cX9_answer 51 = .ok (.getfield 87, 3) := by decide +kernel
theorem dX9_answer_54 : decode cX9_answer 54 = .ok (.if_icmp .ge 45, 3) := by decide +kernel
theorem dX9_answer_57 : decode cX9_answer 57 = .ok (.aload_n 0, 1) := by decide +kernel
theorem dX9_answer_58 : decode cX9_answer 58 = .ok (.getfield 13, 3) := by decide +kernel
theorem dX9_answer_61 : decode cX9_answer 61 = .ok (.iconst 4, 1) := by decide +kernel
theorem dX9_answer_62 : decode cX9_answer 62 = .ok (.iload_n 2, 1) := by decide +kernel
theorem dX9_answer_63 : decode cX9_answer 63 = .ok (.imul, 1) := by decide +kernel
theorem dX9_answer_64 : decode cX9_answer 64 = .ok (.iconst 3, 1) := by decide +kernel
theorem dX9_answer_65 : decode cX9_answer 65 = .ok (.iadd, 1) := by decide +kernel
theorem dX9_answer_66 : decode cX9_answer 66 = .ok (.iload 8, 2) := by decide +kernel
theorem dX9_answer_68 : decode cX9_answer 68 = .ok (.iastore, 1) := by decide +kernel
theorem dX9_answer_69 : decode cX9_answer 69 = .ok (.aload_n 0, 1) := by decide +kernel
theorem dX9_answer_70 : decode cX9_answer 70 = .ok (.iload_n 1, 1) := by decide +kernel
theorem dX9_answer_71 : decode cX9_answer 71 = .ok (.iload_n 3, 1) := by decide +kernel
theorem dX9_answer_72 : decode cX9_answer 72 = .ok (.invokevirtual 195, 3) := by decide +kernel
theorem dX9_answer_75 : decode cX9_answer 75 = .ok (.lstore 9, 2) := by decide +kernel
theorem dX9_answer_77 : decode cX9_answer 77 = .ok (.lload 9, 2) := by decide +kernel
theorem dX9_answer_79 : decode cX9_answer 79 = .ok (.lload 6, 2) := by decide +kernel
theorem dX9_answer_81 : decode cX9_answer 81 = .ok (.lcmp, 1) := by decide +kernel
theorem dX9_answer_82 : decode cX9_answer 82 = .ok (.ifCond .le 11, 3) := by decide +kernel
theorem dX9_answer_85 : decode cX9_answer 85 = .ok (.lload 9, 2) := by decide +kernel
theorem dX9_answer_87 : decode cX9_answer 87 = .ok (.lstore 6, 2) := by decide +kernel
theorem dX9_answer_89 : decode cX9_answer 89 = .ok (.iload 8, 2) := by decide +kernel
theorem dX9_answer_91 : decode cX9_answer 91 = .ok (.istore 5, 2) := by decide +kernel
theorem dX9_answer_93 : decode cX9_answer 93 = .ok (.iinc 8 1, 3) := by decide +kernel
theorem dX9_answer_96 : decode cX9_answer 96 = .ok (.goto (-48), 3) := by decide +kernel
theorem dX9_answer_99 : decode cX9_answer 99 = .ok (.aload_n 0, 1) := by decide +kernel
theorem dX9_answer_100 : decode cX9_answer 100 = .ok (.getfield 13, 3) := by decide +kernel
theorem dX9_answer_103 : decode cX9_answer 103 = .ok (.iconst 4, 1) := by decide +kernel
theorem dX9_answer_104 : decode cX9_answer 104 = .ok (.iload_n 2, 1) := by decide +kernel
theorem dX9_answer_105 : decode cX9_answer 105 = .ok (.imul, 1) := by decide +kernel
theorem dX9_answer_106 : decode cX9_answer 106 = .ok (.iconst 3, 1) := by decide +kernel
theorem dX9_answer_107 : decode cX9_answer 107 = .ok (.iadd, 1) := by decide +kernel
theorem dX9_answer_108 : decode cX9_answer 108 = .ok (.iload 4, 2) := by decide +kernel
theorem dX9_answer_110 : decode cX9_answer 110 = .ok (.iastore, 1) := by decide +kernel
theorem dX9_answer_111 : decode cX9_answer 111 = .ok (.iload 5, 2) := by decide +kernel
theorem dX9_answer_113 : decode cX9_answer 113 = .ok (.ireturn, 1) := by decide +kernel
theorem dX9_hangs_0 : decode cX9_hangs 0 = .ok (.iload_n 1, 1) := by decide +kernel
theorem dX9_hangs_1 : decode cX9_hangs 1 = .ok (.invokestatic 129, 3) := by decide +kernel
theorem dX9_hangs_4 : decode cX9_hangs 4 = .ok (.ifCond .eq 51, 3) := by decide +kernel
theorem dX9_hangs_7 : decode cX9_hangs 7 = .ok (.aload_n 0, 1) := by decide +kernel
theorem dX9_hangs_8 : decode cX9_hangs 8 = .ok (.iload_n 2, 1) := by decide +kernel
theorem dX9_hangs_9 : decode cX9_hangs 9 = .ok (.invokevirtual 113, 3) := by decide +kernel
theorem dX9_hangs_12 : decode cX9_hangs 12 = .ok (.ifCond .eq 43, 3) := by decide +kernel
theorem dX9_hangs_15 : decode cX9_hangs 15 = .ok (.iload_n 3, 1) := by decide +kernel
theorem dX9_hangs_16 : decode cX9_hangs 16 = .ok (.invokestatic 96, 3) := by decide +kernel
theorem dX9_hangs_19 : decode cX9_hangs 19 = .ok (.ifCond .eq 36, 3) := by decide +kernel
theorem dX9_hangs_22 : decode cX9_hangs 22 = .ok (.iload 4, 2) := by decide +kernel
theorem dX9_hangs_24 : decode cX9_hangs 24 = .ok (.invokestatic 96, 3) := by decide +kernel
theorem dX9_hangs_27 : decode cX9_hangs 27 = .ok (.ifCond .eq 28, 3) := by decide +kernel
theorem dX9_hangs_30 : decode cX9_hangs 30 = .ok (.iload_n 3, 1) := by decide +kernel
theorem dX9_hangs_31 : decode cX9_hangs 31 = .ok (.iload 4, 2) := by decide +kernel
theorem dX9_hangs_33 : decode cX9_hangs 33 = .ok (.if_icmp .gt 22, 3) := by decide +kernel
theorem dX9_hangs_36 : decode cX9_hangs 36 = .ok (.iload 5, 2) := by decide +kernel
theorem dX9_hangs_38 : decode cX9_hangs 38 = .ok (.invokestatic 96, 3) := by decide +kernel
theorem dX9_hangs_41 : decode cX9_hangs 41 = .ok (.ifCond .eq 14, 3) := by decide +kernel
theorem dX9_hangs_44 : decode cX9_hangs 44 = .ok (.iload 6, 2) := by decide +kernel
theorem dX9_hangs_46 : decode cX9_hangs 46 = .ok (.i2l, 1) := by decide +kernel
theorem dX9_hangs_47 : decode cX9_hangs 47 = .ok (.lconst 0, 1) := by decide +kernel
theorem dX9_hangs_48 : decode cX9_hangs 48 = .ok (.lconst 1, 1) := by decide +kernel
theorem dX9_hangs_49 : decode cX9_hangs 49 = .ok (.invokestatic 83, 3) := by decide +kernel
theorem dX9_hangs_52 : decode cX9_hangs 52 = .ok (.ifCond .ne 7, 3) := by decide +kernel
theorem dX9_hangs_55 : decode cX9_hangs 55 = .ok (.ldc2_w 107, 3) := by decide +kernel
theorem dX9_hangs_58 : decode cX9_hangs 58 = .ok (.lreturn, 1) := by decide +kernel
theorem dX9_hangs_59 : decode cX9_hangs 59 = .ok (.aload_n 0, 1) := by decide +kernel
theorem dX9_hangs_60 : decode cX9_hangs 60 = .ok (.getfield 13, 3) := by decide +kernel
theorem dX9_hangs_63 : decode cX9_hangs 63 = .ok (.iconst 4, 1) := by decide +kernel
theorem dX9_hangs_64 : decode cX9_hangs 64 = .ok (.iload_n 2, 1) := by decide +kernel
theorem dX9_hangs_65 : decode cX9_hangs 65 = .ok (.imul, 1) := by decide +kernel
theorem dX9_hangs_66 : decode cX9_hangs 66 = .ok (.iaload, 1) := by decide +kernel
theorem dX9_hangs_67 : decode cX9_hangs 67 = .ok (.istore 7, 2) := by decide +kernel
theorem dX9_hangs_69 : decode cX9_hangs 69 = .ok (.ldc2_w 107, 3) := by decide +kernel
theorem dX9_hangs_72 : decode cX9_hangs 72 = .ok (.lstore 8, 2) := by decide +kernel
theorem dX9_hangs_74 : decode cX9_hangs 74 = .ok (.iload_n 3, 1) := by decide +kernel
theorem dX9_hangs_75 : decode cX9_hangs 75 = .ok (.istore 10, 2) := by decide +kernel
theorem dX9_hangs_77 : decode cX9_hangs 77 = .ok (.iload 10, 2) := by decide +kernel
theorem dX9_hangs_79 : decode cX9_hangs 79 = .ok (.iload 4, 2) := by decide +kernel
theorem dX9_hangs_81 : decode cX9_hangs 81 = .ok (.if_icmp .gt 68, 3) := by decide +kernel
theorem dX9_hangs_84 : decode cX9_hangs 84 = .ok (.aload_n 0, 1) := by decide +kernel
theorem dX9_hangs_85 : decode cX9_hangs 85 = .ok (.getfield 13, 3) := by decide +kernel
theorem dX9_hangs_88 : decode cX9_hangs 88 = .ok (.iconst 4, 1) := by decide +kernel
theorem dX9_hangs_89 : decode cX9_hangs 89 = .ok (.iload_n 2, 1) := by decide +kernel
theorem dX9_hangs_90 : decode cX9_hangs 90 = .ok (.imul, 1) := by decide +kernel
theorem dX9_hangs_91 : decode cX9_hangs 91 = .ok (.iload 10, 2) := by decide +kernel
theorem dX9_hangs_93 : decode cX9_hangs 93 = .ok (.iastore, 1) := by decide +kernel
theorem dX9_hangs_94 : decode cX9_hangs 94 = .ok (.aload_n 0, 1) := by decide +kernel
theorem dX9_hangs_95 : decode cX9_hangs 95 = .ok (.iload_n 1, 1) := by decide +kernel
theorem dX9_hangs_96 : decode cX9_hangs 96 = .ok (.iload 5, 2) := by decide +kernel
theorem dX9_hangs_98 : decode cX9_hangs 98 = .ok (.invokevirtual 195, 3) := by decide +kernel
theorem dX9_hangs_101 : decode cX9_hangs 101 = .ok (.lstore 11, 2) := by decide +kernel
theorem dX9_hangs_103 : decode cX9_hangs 103 = .ok (.lload 8, 2) := by decide +kernel
theorem dX9_hangs_105 : decode cX9_hangs 105 = .ok (.lconst 0, 1) := by decide +kernel
theorem dX9_hangs_106 : decode cX9_hangs 106 = .ok (.lcmp, 1) := by decide +kernel
theorem dX9_hangs_107 : decode cX9_hangs 107 = .ok (.ifCond .lt 27, 3) := by decide +kernel
theorem dX9_hangs_110 : decode cX9_hangs 110 = .ok (.iload 6, 2) := by decide +kernel
theorem dX9_hangs_112 : decode cX9_hangs 112 = .ok (.ifCond .ne 14, 3) := by decide +kernel
theorem dX9_hangs_115 : decode cX9_hangs 115 = .ok (.lload 11, 2) := by decide +kernel
theorem dX9_hangs_117 : decode cX9_hangs 117 = .ok (.lload 8, 2) := by decide +kernel
theorem dX9_hangs_119 : decode cX9_hangs 119 = .ok (.lcmp, 1) := by decide +kernel
theorem dX9_hangs_120 : decode cX9_hangs 120 = .ok (.ifCond .ge 19, 3) := by decide +kernel
theorem dX9_hangs_123 : decode cX9_hangs 123 = .ok (.goto 11, 3) := by decide +kernel
theorem dX9_hangs_126 : decode cX9_hangs 126 = .ok (.lload 11, 2) := by decide +kernel
theorem dX9_hangs_128 : decode cX9_hangs 128 = .ok (.lload 8, 2) := by decide +kernel
theorem dX9_hangs_130 : decode cX9_hangs 130 = .ok (.lcmp, 1) := by decide +kernel
theorem dX9_hangs_131 : decode cX9_hangs 131 = .ok (.ifCond .le 8, 3) := by decide +kernel
theorem dX9_hangs_134 : decode cX9_hangs 134 = .ok (.lload 11, 2) := by decide +kernel
theorem dX9_hangs_136 : decode cX9_hangs 136 = .ok (.goto 5, 3) := by decide +kernel
theorem dX9_hangs_139 : decode cX9_hangs 139 = .ok (.lload 8, 2) := by decide +kernel
theorem dX9_hangs_141 : decode cX9_hangs 141 = .ok (.lstore 8, 2) := by decide +kernel
theorem dX9_hangs_143 : decode cX9_hangs 143 = .ok (.iinc 10 1, 3) := by decide +kernel
theorem dX9_hangs_146 : decode cX9_hangs 146 = .ok (.goto (-69), 3) := by decide +kernel
theorem dX9_hangs_149 : decode cX9_hangs 149 = .ok (.aload_n 0, 1) := by decide +kernel
theorem dX9_hangs_150 : decode cX9_hangs 150 = .ok (.getfield 13, 3) := by decide +kernel
theorem dX9_hangs_153 : decode cX9_hangs 153 = .ok (.iconst 4, 1) := by decide +kernel
theorem dX9_hangs_154 : decode cX9_hangs 154 = .ok (.iload_n 2, 1) := by decide +kernel
theorem dX9_hangs_155 : decode cX9_hangs 155 = .ok (.imul, 1) := by decide +kernel
theorem dX9_hangs_156 : decode cX9_hangs 156 = .ok (.iload 7, 2) := by decide +kernel
theorem dX9_hangs_158 : decode cX9_hangs 158 = .ok (.iastore, 1) := by decide +kernel
theorem dX9_hangs_159 : decode cX9_hangs 159 = .ok (.lload 8, 2) := by decide +kernel
theorem dX9_hangs_161 : decode cX9_hangs 161 = .ok (.lreturn, 1) := by decide +kernel
theorem dX9_plan_0 : decode cX9_plan 0 = .ok (.iload_n 1, 1) := by decide +kernel
theorem dX9_plan_1 : decode cX9_plan 1 = .ok (.invokestatic 129, 3) := by decide +kernel
theorem dX9_plan_4 : decode cX9_plan 4 = .ok (.ifCond .eq 46, 3) := by decide +kernel
theorem dX9_plan_7 : decode cX9_plan 7 = .ok (.iload_n 2, 1) := by decide +kernel
theorem dX9_plan_8 : decode cX9_plan 8 = .ok (.i2l, 1) := by decide +kernel
theorem dX9_plan_9 : decode cX9_plan 9 = .ok (.lconst 1, 1) := by decide +kernel
theorem dX9_plan_10 : decode cX9_plan 10 = .ok (.ldc2_w 94, 3) := by decide +kernel
theorem dX9_plan_13 : decode cX9_plan 13 = .ok (.invokestatic 83, 3) := by decide +kernel
theorem dX9_plan_16 : decode cX9_plan 16 = .ok (.ifCond .eq 34, 3) := by decide +kernel
theorem dX9_plan_19 : decode cX9_plan 19 = .ok (.iload_n 3, 1) := by decide +kernel
theorem dX9_plan_20 : decode cX9_plan 20 = .ok (.invokestatic 96, 3) := by decide +kernel
theorem dX9_plan_23 : decode cX9_plan 23 = .ok (.ifCond .eq 27, 3) := by decide +kernel
theorem dX9_plan_26 : decode cX9_plan 26 = .ok (.iload 4, 2) := by decide +kernel
theorem dX9_plan_28 : decode cX9_plan 28 = .ok (.i2l, 1) := by decide +kernel
theorem dX9_plan_29 : decode cX9_plan 29 = .ok (.lconst 1, 1) := by decide +kernel
theorem dX9_plan_30 : decode cX9_plan 30 = .ok (.ldc2_w 207, 3) := by decide +kernel
theorem dX9_plan_33 : decode cX9_plan 33 = .ok (.invokestatic 83, 3) := by decide +kernel
theorem dX9_plan_36 : decode cX9_plan 36 = .ok (.ifCond .eq 14, 3) := by decide +kernel
theorem dX9_plan_39 : decode cX9_plan 39 = .ok (.iload 5, 2) := by decide +kernel
theorem dX9_plan_41 : decode cX9_plan 41 = .ok (.i2l, 1) := by decide +kernel
theorem dX9_plan_42 : decode cX9_plan 42 = .ok (.lconst 0, 1) := by decide +kernel
theorem dX9_plan_43 : decode cX9_plan 43 = .ok (.lconst 1, 1) := by decide +kernel
theorem dX9_plan_44 : decode cX9_plan 44 = .ok (.invokestatic 83, 3) := by decide +kernel
theorem dX9_plan_47 : decode cX9_plan 47 = .ok (.ifCond .ne 7, 3) := by decide +kernel
theorem dX9_plan_50 : decode cX9_plan 50 = .ok (.ldc2_w 107, 3) := by decide +kernel
theorem dX9_plan_53 : decode cX9_plan 53 = .ok (.lreturn, 1) := by decide +kernel
theorem dX9_plan_54 : decode cX9_plan 54 = .ok (.aload_n 0, 1) := by decide +kernel
theorem dX9_plan_55 : decode cX9_plan 55 = .ok (.invokevirtual 180, 3) := by decide +kernel
theorem dX9_plan_58 : decode cX9_plan 58 = .ok (.iconst 0, 1) := by decide +kernel
theorem dX9_plan_59 : decode cX9_plan 59 = .ok (.istore 6, 2) := by decide +kernel
theorem dX9_plan_61 : decode cX9_plan 61 = .ok (.iload 6, 2) := by decide +kernel
theorem dX9_plan_63 : decode cX9_plan 63 = .ok (.sipush 299, 3) := by decide +kernel
theorem dX9_plan_66 : decode cX9_plan 66 = .ok (.if_icmp .gt 72, 3) := by decide +kernel
theorem dX9_plan_69 : decode cX9_plan 69 = .ok (.aload_n 0, 1) := by decide +kernel
theorem dX9_plan_70 : decode cX9_plan 70 = .ok (.iload_n 1, 1) := by decide +kernel
theorem dX9_plan_71 : decode cX9_plan 71 = .ok (.iload 6, 2) := by decide +kernel
theorem dX9_plan_73 : decode cX9_plan 73 = .ok (.invokevirtual 183, 3) := by decide +kernel
theorem dX9_plan_76 : decode cX9_plan 76 = .ok (.iload 6, 2) := by decide +kernel
theorem dX9_plan_78 : decode cX9_plan 78 = .ok (.iload_n 3, 1) := by decide +kernel
theorem dX9_plan_79 : decode cX9_plan 79 = .ok (.if_icmp .lt 53, 3) := by decide +kernel
theorem dX9_plan_82 : decode cX9_plan 82 = .ok (.iload 6, 2) := by decide +kernel
theorem dX9_plan_84 : decode cX9_plan 84 = .ok (.iload_n 3, 1) := by decide +kernel
theorem dX9_plan_85 : decode cX9_plan 85 = .ok (.isub, 1) := by decide +kernel
theorem dX9_plan_86 : decode cX9_plan 86 = .ok (.iload 4, 2) := by decide +kernel
theorem dX9_plan_88 : decode cX9_plan 88 = .ok (.irem, 1) := by decide +kernel
theorem dX9_plan_89 : decode cX9_plan 89 = .ok (.ifCond .ne 43, 3) := by decide +kernel
theorem dX9_plan_92 : decode cX9_plan 92 = .ok (.aload_n 0, 1) := by decide +kernel
theorem dX9_plan_93 : decode cX9_plan 93 = .ok (.iload_n 1, 1) := by decide +kernel
theorem dX9_plan_94 : decode cX9_plan 94 = .ok (.ldc2_w 135, 3) := by decide +kernel
theorem dX9_plan_97 : decode cX9_plan 97 = .ok (.iload_n 2, 1) := by decide +kernel
theorem dX9_plan_98 : decode cX9_plan 98 = .ok (.i2l, 1) := by decide +kernel
theorem dX9_plan_99 : decode cX9_plan 99 = .ok (.lmul, 1) := by decide +kernel
theorem dX9_plan_100 : decode cX9_plan 100 = .ok (.iconst (-1), 1) := by decide +kernel
theorem dX9_plan_101 : decode cX9_plan 101 = .ok (.iconst (-1), 1) := by decide +kernel
theorem dX9_plan_102 : decode cX9_plan 102 = .ok (.iload 6, 2) := by decide +kernel
theorem dX9_plan_104 : decode cX9_plan 104 = .ok (.invokevirtual 168, 3) := by decide +kernel
theorem dX9_plan_107 : decode cX9_plan 107 = .ok (.aload_n 0, 1) := by decide +kernel
theorem dX9_plan_108 : decode cX9_plan 108 = .ok (.invokevirtual 189, 3) := by decide +kernel
theorem dX9_plan_111 : decode cX9_plan 111 = .ok (.lconst 0, 1) := by decide +kernel
theorem dX9_plan_112 : decode cX9_plan 112 = .ok (.lcmp, 1) := by decide +kernel
theorem dX9_plan_113 : decode cX9_plan 113 = .ok (.ifCond .ne 19, 3) := by decide +kernel
theorem dX9_plan_116 : decode cX9_plan 116 = .ok (.iload 5, 2) := by decide +kernel
theorem dX9_plan_118 : decode cX9_plan 118 = .ok (.ifCond .ne 9, 3) := by decide +kernel
theorem dX9_plan_121 : decode cX9_plan 121 = .ok (.iload 6, 2) := by decide +kernel
theorem dX9_plan_123 : decode cX9_plan 123 = .ok (.i2l, 1) := by decide +kernel
theorem dX9_plan_124 : decode cX9_plan 124 = .ok (.goto 7, 3) := by decide +kernel
theorem dX9_plan_127 : decode cX9_plan 127 = .ok (.aload_n 0, 1) := by decide +kernel
theorem dX9_plan_128 : decode cX9_plan 128 = .ok (.getfield 149, 3) := by decide +kernel
theorem dX9_plan_131 : decode cX9_plan 131 = .ok (.lreturn, 1) := by decide +kernel
theorem dX9_plan_132 : decode cX9_plan 132 = .ok (.iinc 6 1, 3) := by decide +kernel
theorem dX9_plan_135 : decode cX9_plan 135 = .ok (.goto (-74), 3) := by decide +kernel
theorem dX9_plan_138 : decode cX9_plan 138 = .ok (.ldc2_w 209, 3) := by decide +kernel
theorem dX9_plan_141 : decode cX9_plan 141 = .ok (.lreturn, 1) := by decide +kernel
theorem dX9_parts_0 : decode cX9_parts 0 = .ok (.aload_n 0, 1) := by decide +kernel
theorem dX9_parts_1 : decode cX9_parts 1 = .ok (.invokevirtual 180, 3) := by decide +kernel
theorem dX9_parts_4 : decode cX9_parts 4 = .ok (.iconst 0, 1) := by decide +kernel
theorem dX9_parts_5 : decode cX9_parts 5 = .ok (.istore_n 1, 1) := by decide +kernel
theorem dX9_parts_6 : decode cX9_parts 6 = .ok (.iload_n 1, 1) := by decide +kernel
theorem dX9_parts_7 : decode cX9_parts 7 = .ok (.sipush 299, 3) := by decide +kernel
theorem dX9_parts_10 : decode cX9_parts 10 = .ok (.if_icmp .gt 47, 3) := by decide +kernel
theorem dX9_parts_13 : decode cX9_parts 13 = .ok (.aload_n 0, 1) := by decide +kernel
theorem dX9_parts_14 : decode cX9_parts 14 = .ok (.iconst 0, 1) := by decide +kernel
theorem dX9_parts_15 : decode cX9_parts 15 = .ok (.iload_n 1, 1) := by decide +kernel
theorem dX9_parts_16 : decode cX9_parts 16 = .ok (.invokevirtual 183, 3) := by decide +kernel
theorem dX9_parts_19 : decode cX9_parts 19 = .ok (.iconst 0, 1) := by decide +kernel
theorem dX9_parts_20 : decode cX9_parts 20 = .ok (.istore_n 2, 1) := by decide +kernel
theorem dX9_parts_21 : decode cX9_parts 21 = .ok (.iload_n 2, 1) := by decide +kernel
theorem dX9_parts_22 : decode cX9_parts 22 = .ok (.aload_n 0, 1) := by decide +kernel
theorem dX9_parts_23 : decode cX9_parts 23 = .ok (.getfield 87, 3) := by decide +kernel
theorem dX9_parts_26 : decode cX9_parts 26 = .ok (.if_icmp .ge 25, 3) := by decide +kernel
theorem dX9_parts_29 : decode cX9_parts 29 = .ok (.aload_n 0, 1) := by decide +kernel
theorem dX9_parts_30 : decode cX9_parts 30 = .ok (.getfield 66, 3) := by decide +kernel
theorem dX9_parts_33 : decode cX9_parts 33 = .ok (.bipush 8, 2) := by decide +kernel
theorem dX9_parts_35 : decode cX9_parts 35 = .ok (.iload_n 1, 1) := by decide +kernel
theorem dX9_parts_36 : decode cX9_parts 36 = .ok (.imul, 1) := by decide +kernel
theorem dX9_parts_37 : decode cX9_parts 37 = .ok (.iload_n 2, 1) := by decide +kernel
theorem dX9_parts_38 : decode cX9_parts 38 = .ok (.iadd, 1) := by decide +kernel
theorem dX9_parts_39 : decode cX9_parts 39 = .ok (.aload_n 0, 1) := by decide +kernel
theorem dX9_parts_40 : decode cX9_parts 40 = .ok (.iload_n 2, 1) := by decide +kernel
theorem dX9_parts_41 : decode cX9_parts 41 = .ok (.invokevirtual 137, 3) := by decide +kernel
theorem dX9_parts_44 : decode cX9_parts 44 = .ok (.lastore, 1) := by decide +kernel
theorem dX9_parts_45 : decode cX9_parts 45 = .ok (.iinc 2 1, 3) := by decide +kernel
theorem dX9_parts_48 : decode cX9_parts 48 = .ok (.goto (-27), 3) := by decide +kernel
theorem dX9_parts_51 : decode cX9_parts 51 = .ok (.iinc 1 1, 3) := by decide +kernel
theorem dX9_parts_54 : decode cX9_parts 54 = .ok (.goto (-48), 3) := by decide +kernel
theorem dX9_parts_57 : decode cX9_parts 57 = .ok (.aload_n 0, 1) := by decide +kernel
theorem dX9_parts_58 : decode cX9_parts 58 = .ok (.invokevirtual 180, 3) := by decide +kernel
theorem dX9_parts_61 : decode cX9_parts 61 = .ok (.iconst 0, 1) := by decide +kernel
theorem dX9_parts_62 : decode cX9_parts 62 = .ok (.istore_n 1, 1) := by decide +kernel
theorem dX9_parts_63 : decode cX9_parts 63 = .ok (.iload_n 1, 1) := by decide +kernel
theorem dX9_parts_64 : decode cX9_parts 64 = .ok (.sipush 299, 3) := by decide +kernel
theorem dX9_parts_67 : decode cX9_parts 67 = .ok (.if_icmp .gt 53, 3) := by decide +kernel
theorem dX9_parts_70 : decode cX9_parts 70 = .ok (.aload_n 0, 1) := by decide +kernel
theorem dX9_parts_71 : decode cX9_parts 71 = .ok (.iconst 1, 1) := by decide +kernel
theorem dX9_parts_72 : decode cX9_parts 72 = .ok (.iload_n 1, 1) := by decide +kernel
theorem dX9_parts_73 : decode cX9_parts 73 = .ok (.invokevirtual 183, 3) := by decide +kernel
theorem dX9_parts_76 : decode cX9_parts 76 = .ok (.iconst 0, 1) := by decide +kernel
theorem dX9_parts_77 : decode cX9_parts 77 = .ok (.istore_n 2, 1) := by decide +kernel
theorem dX9_parts_78 : decode cX9_parts 78 = .ok (.iload_n 2, 1) := by decide +kernel
theorem dX9_parts_79 : decode cX9_parts 79 = .ok (.aload_n 0, 1) := by decide +kernel
theorem dX9_parts_80 : decode cX9_parts 80 = .ok (.getfield 87, 3) := by decide +kernel
theorem dX9_parts_83 : decode cX9_parts 83 = .ok (.if_icmp .ge 31, 3) := by decide +kernel
theorem dX9_parts_86 : decode cX9_parts 86 = .ok (.aload_n 0, 1) := by decide +kernel
theorem dX9_parts_87 : decode cX9_parts 87 = .ok (.getfield 66, 3) := by decide +kernel
theorem dX9_parts_90 : decode cX9_parts 90 = .ok (.bipush 8, 2) := by decide +kernel
theorem dX9_parts_92 : decode cX9_parts 92 = .ok (.iload_n 1, 1) := by decide +kernel
theorem dX9_parts_93 : decode cX9_parts 93 = .ok (.imul, 1) := by decide +kernel
theorem dX9_parts_94 : decode cX9_parts 94 = .ok (.iload_n 2, 1) := by decide +kernel
theorem dX9_parts_95 : decode cX9_parts 95 = .ok (.iadd, 1) := by decide +kernel
theorem dX9_parts_96 : decode cX9_parts 96 = .ok (.laload, 1) := by decide +kernel
theorem dX9_parts_97 : decode cX9_parts 97 = .ok (.aload_n 0, 1) := by decide +kernel
theorem dX9_parts_98 : decode cX9_parts 98 = .ok (.iload_n 2, 1) := by decide +kernel
theorem dX9_parts_99 : decode cX9_parts 99 = .ok (.invokevirtual 137, 3) := by decide +kernel
theorem dX9_parts_102 : decode cX9_parts 102 = .ok (.lcmp, 1) := by decide +kernel
theorem dX9_parts_103 : decode cX9_parts 103 = .ok (.ifCond .eq 5, 3) := by decide +kernel
theorem dX9_parts_106 : decode cX9_parts 106 = .ok (.iload_n 1, 1) := by decide +kernel
theorem dX9_parts_107 : decode cX9_parts 107 = .ok (.ireturn, 1) := by decide +kernel
theorem dX9_parts_108 : decode cX9_parts 108 = .ok (.iinc 2 1, 3) := by decide +kernel
theorem dX9_parts_111 : decode cX9_parts 111 = .ok (.goto (-33), 3) := by decide +kernel
theorem dX9_parts_114 : decode cX9_parts 114 = .ok (.iinc 1 1, 3) := by decide +kernel
theorem dX9_parts_117 : decode cX9_parts 117 = .ok (.goto (-54), 3) := by decide +kernel
theorem dX9_parts_120 : decode cX9_parts 120 = .ok (.bipush (-4), 2) := by decide +kernel
theorem dX9_parts_122 : decode cX9_parts 122 = .ok (.ireturn, 1) := by decide +kernel
theorem dX9_gap_0 : decode cX9_gap 0 = .ok (.iload_n 1, 1) := by decide +kernel
theorem dX9_gap_1 : decode cX9_gap 1 = .ok (.invokestatic 96, 3) := by decide +kernel
theorem dX9_gap_4 : decode cX9_gap 4 = .ok (.ifCond .eq 19, 3) := by decide +kernel
theorem dX9_gap_7 : decode cX9_gap 7 = .ok (.aload_n 0, 1) := by decide +kernel
theorem dX9_gap_8 : decode cX9_gap 8 = .ok (.iconst 1, 1) := by decide +kernel
theorem dX9_gap_9 : decode cX9_gap 9 = .ok (.iload_n 1, 1) := by decide +kernel
theorem dX9_gap_10 : decode cX9_gap 10 = .ok (.invokevirtual 195, 3) := by decide +kernel
theorem dX9_gap_13 : decode cX9_gap 13 = .ok (.aload_n 0, 1) := by decide +kernel
theorem dX9_gap_14 : decode cX9_gap 14 = .ok (.iconst 0, 1) := by decide +kernel
theorem dX9_gap_15 : decode cX9_gap 15 = .ok (.iload_n 1, 1) := by decide +kernel
theorem dX9_gap_16 : decode cX9_gap 16 = .ok (.invokevirtual 195, 3) := by decide +kernel
theorem dX9_gap_19 : decode cX9_gap 19 = .ok (.lsub, 1) := by decide +kernel
theorem dX9_gap_20 : decode cX9_gap 20 = .ok (.goto 6, 3) := by decide +kernel
theorem dX9_gap_23 : decode cX9_gap 23 = .ok (.ldc2_w 211, 3) := by decide +kernel
theorem dX9_gap_26 : decode cX9_gap 26 = .ok (.lreturn, 1) := by decide +kernel
theorem dX9_carry_0 : decode cX9_carry 0 = .ok (.iconst 0, 1) := by decide +kernel
theorem dX9_carry_1 : decode cX9_carry 1 = .ok (.istore_n 2, 1) := by decide +kernel
theorem dX9_carry_2 : decode cX9_carry 2 = .ok (.iconst 0, 1) := by decide +kernel
theorem dX9_carry_3 : decode cX9_carry 3 = .ok (.istore_n 3, 1) := by decide +kernel
theorem dX9_carry_4 : decode cX9_carry 4 = .ok (.iload_n 3, 1) := by decide +kernel
theorem dX9_carry_5 : decode cX9_carry 5 = .ok (.bipush 64, 2) := by decide +kernel
theorem dX9_carry_7 : decode cX9_carry 7 = .ok (.if_icmp .ge 49, 3) := by decide +kernel
theorem dX9_carry_10 : decode cX9_carry 10 = .ok (.aload_n 0, 1) := by decide +kernel
theorem dX9_carry_11 : decode cX9_carry 11 = .ok (.getfield 69, 3) := by decide +kernel
theorem dX9_carry_14 : decode cX9_carry 14 = .ok (.iload_n 2, 1) := by decide +kernel
theorem dX9_carry_15 : decode cX9_carry 15 = .ok (.iload_n 1, 1) := by decide +kernel
theorem dX9_carry_16 : decode cX9_carry 16 = .ok (.ifCond .eq 12, 3) := by decide +kernel
theorem dX9_carry_19 : decode cX9_carry 19 = .ok (.aload_n 0, 1) := by decide +kernel
theorem dX9_carry_20 : decode cX9_carry 20 = .ok (.getfield 69, 3) := by decide +kernel
theorem dX9_carry_23 : decode cX9_carry 23 = .ok (.iload_n 2, 1) := by decide +kernel
theorem dX9_carry_24 : decode cX9_carry 24 = .ok (.iaload, 1) := by decide +kernel
theorem dX9_carry_25 : decode cX9_carry 25 = .ok (.goto 9, 3) := by decide +kernel
theorem dX9_carry_28 : decode cX9_carry 28 = .ok (.aload_n 0, 1) := by decide +kernel
theorem dX9_carry_29 : decode cX9_carry 29 = .ok (.getfield 7, 3) := by decide +kernel
theorem dX9_carry_32 : decode cX9_carry 32 = .ok (.iload_n 3, 1) := by decide +kernel
theorem dX9_carry_33 : decode cX9_carry 33 = .ok (.iaload, 1) := by decide +kernel
theorem dX9_carry_34 : decode cX9_carry 34 = .ok (.iastore, 1) := by decide +kernel
theorem dX9_carry_35 : decode cX9_carry 35 = .ok (.aload_n 0, 1) := by decide +kernel
theorem dX9_carry_36 : decode cX9_carry 36 = .ok (.getfield 7, 3) := by decide +kernel
theorem dX9_carry_39 : decode cX9_carry 39 = .ok (.iload_n 3, 1) := by decide +kernel
theorem dX9_carry_40 : decode cX9_carry 40 = .ok (.aload_n 0, 1) := by decide +kernel
theorem dX9_carry_41 : decode cX9_carry 41 = .ok (.getfield 69, 3) := by decide +kernel
theorem dX9_carry_44 : decode cX9_carry 44 = .ok (.iload_n 2, 1) := by decide +kernel
theorem dX9_carry_45 : decode cX9_carry 45 = .ok (.iaload, 1) := by decide +kernel
theorem dX9_carry_46 : decode cX9_carry 46 = .ok (.iastore, 1) := by decide +kernel
theorem dX9_carry_47 : decode cX9_carry 47 = .ok (.iinc 2 1, 3) := by decide +kernel
theorem dX9_carry_50 : decode cX9_carry 50 = .ok (.iinc 3 1, 3) := by decide +kernel
theorem dX9_carry_53 : decode cX9_carry 53 = .ok (.goto (-49), 3) := by decide +kernel
theorem dX9_carry_56 : decode cX9_carry 56 = .ok (.iconst 0, 1) := by decide +kernel
theorem dX9_carry_57 : decode cX9_carry 57 = .ok (.istore_n 3, 1) := by decide +kernel
theorem dX9_carry_58 : decode cX9_carry 58 = .ok (.iload_n 3, 1) := by decide +kernel
theorem dX9_carry_59 : decode cX9_carry 59 = .ok (.bipush 48, 2) := by decide +kernel
theorem dX9_carry_61 : decode cX9_carry 61 = .ok (.if_icmp .ge 49, 3) := by decide +kernel
theorem dX9_carry_64 : decode cX9_carry 64 = .ok (.aload_n 0, 1) := by decide +kernel
theorem dX9_carry_65 : decode cX9_carry 65 = .ok (.getfield 69, 3) := by decide +kernel
theorem dX9_carry_68 : decode cX9_carry 68 = .ok (.iload_n 2, 1) := by decide +kernel
theorem dX9_carry_69 : decode cX9_carry 69 = .ok (.iload_n 1, 1) := by decide +kernel
theorem dX9_carry_70 : decode cX9_carry 70 = .ok (.ifCond .eq 12, 3) := by decide +kernel
theorem dX9_carry_73 : decode cX9_carry 73 = .ok (.aload_n 0, 1) := by decide +kernel
theorem dX9_carry_74 : decode cX9_carry 74 = .ok (.getfield 69, 3) := by decide +kernel
theorem dX9_carry_77 : decode cX9_carry 77 = .ok (.iload_n 2, 1) := by decide +kernel
theorem dX9_carry_78 : decode cX9_carry 78 = .ok (.iaload, 1) := by decide +kernel
theorem dX9_carry_79 : decode cX9_carry 79 = .ok (.goto 9, 3) := by decide +kernel
theorem dX9_carry_82 : decode cX9_carry 82 = .ok (.aload_n 0, 1) := by decide +kernel
theorem dX9_carry_83 : decode cX9_carry 83 = .ok (.getfield 13, 3) := by decide +kernel
theorem dX9_carry_86 : decode cX9_carry 86 = .ok (.iload_n 3, 1) := by decide +kernel
theorem dX9_carry_87 : decode cX9_carry 87 = .ok (.iaload, 1) := by decide +kernel
theorem dX9_carry_88 : decode cX9_carry 88 = .ok (.iastore, 1) := by decide +kernel
theorem dX9_carry_89 : decode cX9_carry 89 = .ok (.aload_n 0, 1) := by decide +kernel
theorem dX9_carry_90 : decode cX9_carry 90 = .ok (.getfield 13, 3) := by decide +kernel
theorem dX9_carry_93 : decode cX9_carry 93 = .ok (.iload_n 3, 1) := by decide +kernel
theorem dX9_carry_94 : decode cX9_carry 94 = .ok (.aload_n 0, 1) := by decide +kernel
theorem dX9_carry_95 : decode cX9_carry 95 = .ok (.getfield 69, 3) := by decide +kernel
theorem dX9_carry_98 : decode cX9_carry 98 = .ok (.iload_n 2, 1) := by decide +kernel
theorem dX9_carry_99 : decode cX9_carry 99 = .ok (.iaload, 1) := by decide +kernel
theorem dX9_carry_100 : decode cX9_carry 100 = .ok (.iastore, 1) := by decide +kernel
theorem dX9_carry_101 : decode cX9_carry 101 = .ok (.iinc 2 1, 3) := by decide +kernel
theorem dX9_carry_104 : decode cX9_carry 104 = .ok (.iinc 3 1, 3) := by decide +kernel
theorem dX9_carry_107 : decode cX9_carry 107 = .ok (.goto (-49), 3) := by decide +kernel
theorem dX9_carry_110 : decode cX9_carry 110 = .ok (.iconst 0, 1) := by decide +kernel
theorem dX9_carry_111 : decode cX9_carry 111 = .ok (.istore_n 3, 1) := by decide +kernel
theorem dX9_carry_112 : decode cX9_carry 112 = .ok (.iload_n 3, 1) := by decide +kernel
theorem dX9_carry_113 : decode cX9_carry 113 = .ok (.bipush 24, 2) := by decide +kernel
theorem dX9_carry_115 : decode cX9_carry 115 = .ok (.if_icmp .ge 49, 3) := by decide +kernel
theorem dX9_carry_118 : decode cX9_carry 118 = .ok (.aload_n 0, 1) := by decide +kernel
theorem dX9_carry_119 : decode cX9_carry 119 = .ok (.getfield 69, 3) := by decide +kernel
theorem dX9_carry_122 : decode cX9_carry 122 = .ok (.iload_n 2, 1) := by decide +kernel
theorem dX9_carry_123 : decode cX9_carry 123 = .ok (.iload_n 1, 1) := by decide +kernel
theorem dX9_carry_124 : decode cX9_carry 124 = .ok (.ifCond .eq 12, 3) := by decide +kernel
theorem dX9_carry_127 : decode cX9_carry 127 = .ok (.aload_n 0, 1) := by decide +kernel
theorem dX9_carry_128 : decode cX9_carry 128 = .ok (.getfield 69, 3) := by decide +kernel
theorem dX9_carry_131 : decode cX9_carry 131 = .ok (.iload_n 2, 1) := by decide +kernel
theorem dX9_carry_132 : decode cX9_carry 132 = .ok (.iaload, 1) := by decide +kernel
theorem dX9_carry_133 : decode cX9_carry 133 = .ok (.goto 9, 3) := by decide +kernel
theorem dX9_carry_136 : decode cX9_carry 136 = .ok (.aload_n 0, 1) := by decide +kernel
theorem dX9_carry_137 : decode cX9_carry 137 = .ok (.getfield 19, 3) := by decide +kernel
theorem dX9_carry_140 : decode cX9_carry 140 = .ok (.iload_n 3, 1) := by decide +kernel
theorem dX9_carry_141 : decode cX9_carry 141 = .ok (.iaload, 1) := by decide +kernel
theorem dX9_carry_142 : decode cX9_carry 142 = .ok (.iastore, 1) := by decide +kernel
theorem dX9_carry_143 : decode cX9_carry 143 = .ok (.aload_n 0, 1) := by decide +kernel
theorem dX9_carry_144 : decode cX9_carry 144 = .ok (.getfield 19, 3) := by decide +kernel
theorem dX9_carry_147 : decode cX9_carry 147 = .ok (.iload_n 3, 1) := by decide +kernel
theorem dX9_carry_148 : decode cX9_carry 148 = .ok (.aload_n 0, 1) := by decide +kernel
theorem dX9_carry_149 : decode cX9_carry 149 = .ok (.getfield 69, 3) := by decide +kernel
theorem dX9_carry_152 : decode cX9_carry 152 = .ok (.iload_n 2, 1) := by decide +kernel
theorem dX9_carry_153 : decode cX9_carry 153 = .ok (.iaload, 1) := by decide +kernel
theorem dX9_carry_154 : decode cX9_carry 154 = .ok (.iastore, 1) := by decide +kernel
theorem dX9_carry_155 : decode cX9_carry 155 = .ok (.iinc 2 1, 3) := by decide +kernel
theorem dX9_carry_158 : decode cX9_carry 158 = .ok (.iinc 3 1, 3) := by decide +kernel
theorem dX9_carry_161 : decode cX9_carry 161 = .ok (.goto (-49), 3) := by decide +kernel
theorem dX9_carry_164 : decode cX9_carry 164 = .ok (.aload_n 0, 1) := by decide +kernel
theorem dX9_carry_165 : decode cX9_carry 165 = .ok (.getfield 69, 3) := by decide +kernel
theorem dX9_carry_168 : decode cX9_carry 168 = .ok (.iload_n 2, 1) := by decide +kernel
theorem dX9_carry_169 : decode cX9_carry 169 = .ok (.iload_n 1, 1) := by decide +kernel
theorem dX9_carry_170 : decode cX9_carry 170 = .ok (.ifCond .eq 12, 3) := by decide +kernel
theorem dX9_carry_173 : decode cX9_carry 173 = .ok (.aload_n 0, 1) := by decide +kernel
theorem dX9_carry_174 : decode cX9_carry 174 = .ok (.getfield 69, 3) := by decide +kernel
theorem dX9_carry_177 : decode cX9_carry 177 = .ok (.iload_n 2, 1) := by decide +kernel
theorem dX9_carry_178 : decode cX9_carry 178 = .ok (.iaload, 1) := by decide +kernel
theorem dX9_carry_179 : decode cX9_carry 179 = .ok (.goto 7, 3) := by decide +kernel
theorem dX9_carry_182 : decode cX9_carry 182 = .ok (.aload_n 0, 1) := by decide +kernel
theorem dX9_carry_183 : decode cX9_carry 183 = .ok (.getfield 87, 3) := by decide +kernel
theorem dX9_carry_186 : decode cX9_carry 186 = .ok (.iastore, 1) := by decide +kernel
theorem dX9_carry_187 : decode cX9_carry 187 = .ok (.aload_n 0, 1) := by decide +kernel
theorem dX9_carry_188 : decode cX9_carry 188 = .ok (.aload_n 0, 1) := by decide +kernel
theorem dX9_carry_189 : decode cX9_carry 189 = .ok (.getfield 69, 3) := by decide +kernel
theorem dX9_carry_192 : decode cX9_carry 192 = .ok (.iload_n 2, 1) := by decide +kernel
theorem dX9_carry_193 : decode cX9_carry 193 = .ok (.iaload, 1) := by decide +kernel
theorem dX9_carry_194 : decode cX9_carry 194 = .ok (.putfield 87, 3) := by decide +kernel
theorem dX9_carry_197 : decode cX9_carry 197 = .ok (.aload_n 0, 1) := by decide +kernel
theorem dX9_carry_198 : decode cX9_carry 198 = .ok (.getfield 69, 3) := by decide +kernel
theorem dX9_carry_201 : decode cX9_carry 201 = .ok (.iload_n 2, 1) := by decide +kernel
theorem dX9_carry_202 : decode cX9_carry 202 = .ok (.iconst 1, 1) := by decide +kernel
theorem dX9_carry_203 : decode cX9_carry 203 = .ok (.iadd, 1) := by decide +kernel
theorem dX9_carry_204 : decode cX9_carry 204 = .ok (.iload_n 1, 1) := by decide +kernel
theorem dX9_carry_205 : decode cX9_carry 205 = .ok (.ifCond .eq 14, 3) := by decide +kernel
theorem dX9_carry_208 : decode cX9_carry 208 = .ok (.aload_n 0, 1) := by decide +kernel
theorem dX9_carry_209 : decode cX9_carry 209 = .ok (.getfield 69, 3) := by decide +kernel
theorem dX9_carry_212 : decode cX9_carry 212 = .ok (.iload_n 2, 1) := by decide +kernel
theorem dX9_carry_213 : decode cX9_carry 213 = .ok (.iconst 1, 1) := by decide +kernel
theorem dX9_carry_214 : decode cX9_carry 214 = .ok (.iadd, 1) := by decide +kernel
theorem dX9_carry_215 : decode cX9_carry 215 = .ok (.iaload, 1) := by decide +kernel
theorem dX9_carry_216 : decode cX9_carry 216 = .ok (.goto 7, 3) := by decide +kernel
theorem dX9_carry_219 : decode cX9_carry 219 = .ok (.aload_n 0, 1) := by decide +kernel
theorem dX9_carry_220 : decode cX9_carry 220 = .ok (.getfield 91, 3) := by decide +kernel
theorem dX9_carry_223 : decode cX9_carry 223 = .ok (.iastore, 1) := by decide +kernel
theorem dX9_carry_224 : decode cX9_carry 224 = .ok (.aload_n 0, 1) := by decide +kernel
theorem dX9_carry_225 : decode cX9_carry 225 = .ok (.aload_n 0, 1) := by decide +kernel
theorem dX9_carry_226 : decode cX9_carry 226 = .ok (.getfield 69, 3) := by decide +kernel
theorem dX9_carry_229 : decode cX9_carry 229 = .ok (.iload_n 2, 1) := by decide +kernel
theorem dX9_carry_230 : decode cX9_carry 230 = .ok (.iconst 1, 1) := by decide +kernel
theorem dX9_carry_231 : decode cX9_carry 231 = .ok (.iadd, 1) := by decide +kernel
theorem dX9_carry_232 : decode cX9_carry 232 = .ok (.iaload, 1) := by decide +kernel
theorem dX9_carry_233 : decode cX9_carry 233 = .ok (.putfield 91, 3) := by decide +kernel
theorem dX9_carry_236 : decode cX9_carry 236 = .ok (.aload_n 0, 1) := by decide +kernel
theorem dX9_carry_237 : decode cX9_carry 237 = .ok (.getfield 69, 3) := by decide +kernel
theorem dX9_carry_240 : decode cX9_carry 240 = .ok (.iload_n 2, 1) := by decide +kernel
theorem dX9_carry_241 : decode cX9_carry 241 = .ok (.iconst 2, 1) := by decide +kernel
theorem dX9_carry_242 : decode cX9_carry 242 = .ok (.iadd, 1) := by decide +kernel
theorem dX9_carry_243 : decode cX9_carry 243 = .ok (.iload_n 1, 1) := by decide +kernel
theorem dX9_carry_244 : decode cX9_carry 244 = .ok (.ifCond .eq 14, 3) := by decide +kernel
theorem dX9_carry_247 : decode cX9_carry 247 = .ok (.aload_n 0, 1) := by decide +kernel
theorem dX9_carry_248 : decode cX9_carry 248 = .ok (.getfield 69, 3) := by decide +kernel
theorem dX9_carry_251 : decode cX9_carry 251 = .ok (.iload_n 2, 1) := by decide +kernel
theorem dX9_carry_252 : decode cX9_carry 252 = .ok (.iconst 2, 1) := by decide +kernel
theorem dX9_carry_253 : decode cX9_carry 253 = .ok (.iadd, 1) := by decide +kernel
theorem dX9_carry_254 : decode cX9_carry 254 = .ok (.iaload, 1) := by decide +kernel
theorem dX9_carry_255 : decode cX9_carry 255 = .ok (.goto 9, 3) := by decide +kernel
theorem dX9_carry_258 : decode cX9_carry 258 = .ok (.aload_n 0, 1) := by decide +kernel
theorem dX9_carry_259 : decode cX9_carry 259 = .ok (.getfield 22, 3) := by decide +kernel
theorem dX9_carry_262 : decode cX9_carry 262 = .ok (.iconst 0, 1) := by decide +kernel
theorem dX9_carry_263 : decode cX9_carry 263 = .ok (.iaload, 1) := by decide +kernel
theorem dX9_carry_264 : decode cX9_carry 264 = .ok (.iastore, 1) := by decide +kernel
theorem dX9_carry_265 : decode cX9_carry 265 = .ok (.aload_n 0, 1) := by decide +kernel
theorem dX9_carry_266 : decode cX9_carry 266 = .ok (.getfield 22, 3) := by decide +kernel
theorem dX9_carry_269 : decode cX9_carry 269 = .ok (.iconst 0, 1) := by decide +kernel
theorem dX9_carry_270 : decode cX9_carry 270 = .ok (.aload_n 0, 1) := by decide +kernel
theorem dX9_carry_271 : decode cX9_carry 271 = .ok (.getfield 69, 3) := by decide +kernel
theorem dX9_carry_274 : decode cX9_carry 274 = .ok (.iload_n 2, 1) := by decide +kernel
theorem dX9_carry_275 : decode cX9_carry 275 = .ok (.iconst 2, 1) := by decide +kernel
theorem dX9_carry_276 : decode cX9_carry 276 = .ok (.iadd, 1) := by decide +kernel
theorem dX9_carry_277 : decode cX9_carry 277 = .ok (.iaload, 1) := by decide +kernel
theorem dX9_carry_278 : decode cX9_carry 278 = .ok (.iastore, 1) := by decide +kernel
theorem dX9_carry_279 : decode cX9_carry 279 = .ok (.aload_n 0, 1) := by decide +kernel
theorem dX9_carry_280 : decode cX9_carry 280 = .ok (.getfield 69, 3) := by decide +kernel
theorem dX9_carry_283 : decode cX9_carry 283 = .ok (.iload_n 2, 1) := by decide +kernel
theorem dX9_carry_284 : decode cX9_carry 284 = .ok (.iconst 3, 1) := by decide +kernel
theorem dX9_carry_285 : decode cX9_carry 285 = .ok (.iadd, 1) := by decide +kernel
theorem dX9_carry_286 : decode cX9_carry 286 = .ok (.iload_n 1, 1) := by decide +kernel
theorem dX9_carry_287 : decode cX9_carry 287 = .ok (.ifCond .eq 14, 3) := by decide +kernel
theorem dX9_carry_290 : decode cX9_carry 290 = .ok (.aload_n 0, 1) := by decide +kernel
theorem dX9_carry_291 : decode cX9_carry 291 = .ok (.getfield 69, 3) := by decide +kernel
theorem dX9_carry_294 : decode cX9_carry 294 = .ok (.iload_n 2, 1) := by decide +kernel
theorem dX9_carry_295 : decode cX9_carry 295 = .ok (.iconst 3, 1) := by decide +kernel
theorem dX9_carry_296 : decode cX9_carry 296 = .ok (.iadd, 1) := by decide +kernel
theorem dX9_carry_297 : decode cX9_carry 297 = .ok (.iaload, 1) := by decide +kernel
theorem dX9_carry_298 : decode cX9_carry 298 = .ok (.goto 9, 3) := by decide +kernel
theorem dX9_carry_301 : decode cX9_carry 301 = .ok (.aload_n 0, 1) := by decide +kernel
theorem dX9_carry_302 : decode cX9_carry 302 = .ok (.getfield 22, 3) := by decide +kernel
theorem dX9_carry_305 : decode cX9_carry 305 = .ok (.iconst 1, 1) := by decide +kernel
theorem dX9_carry_306 : decode cX9_carry 306 = .ok (.iaload, 1) := by decide +kernel
theorem dX9_carry_307 : decode cX9_carry 307 = .ok (.iastore, 1) := by decide +kernel
theorem dX9_carry_308 : decode cX9_carry 308 = .ok (.aload_n 0, 1) := by decide +kernel
theorem dX9_carry_309 : decode cX9_carry 309 = .ok (.getfield 22, 3) := by decide +kernel
theorem dX9_carry_312 : decode cX9_carry 312 = .ok (.iconst 1, 1) := by decide +kernel
theorem dX9_carry_313 : decode cX9_carry 313 = .ok (.aload_n 0, 1) := by decide +kernel
theorem dX9_carry_314 : decode cX9_carry 314 = .ok (.getfield 69, 3) := by decide +kernel
theorem dX9_carry_317 : decode cX9_carry 317 = .ok (.iload_n 2, 1) := by decide +kernel
