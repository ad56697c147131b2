theorem dX8_pay_19 : decode cX8_pay 19 = .ok (.if_icmp .lt 6, 3) := by decide +kernel
theorem dX8_pay_22 : decode cX8_pay 22 = .ok (.bipush (-3), 2) := by decide +kernel
theorem dX8_pay_24 : decode cX8_pay 24 = .ok (.ireturn, 1) := by decide +kernel
theorem dX8_pay_25 : decode cX8_pay 25 = .ok (.aload_n 0, 1) := by decide +kernel
theorem dX8_pay_26 : decode cX8_pay 26 = .ok (.getfield 10, 3) := by decide +kernel
theorem dX8_pay_29 : decode cX8_pay 29 = .ok (.iload_n 1, 1) := by decide +kernel
theorem dX8_pay_30 : decode cX8_pay 30 = .ok (.iload_n 2, 1) := by decide +kernel
theorem dX8_pay_31 : decode cX8_pay 31 = .ok (.invokevirtual 96, 3) := by decide +kernel
theorem dX8_pay_34 : decode cX8_pay 34 = .ok (.aload_n 0, 1) := by decide +kernel
theorem dX8_pay_35 : decode cX8_pay 35 = .ok (.getfield 10, 3) := by decide +kernel
theorem dX8_pay_38 : decode cX8_pay 38 = .ok (.getfield 93, 3) := by decide +kernel
theorem dX8_pay_41 : decode cX8_pay 41 = .ok (.iconst 1, 1) := by decide +kernel
theorem dX8_pay_42 : decode cX8_pay 42 = .ok (.isub, 1) := by decide +kernel
theorem dX8_pay_43 : decode cX8_pay 43 = .ok (.ireturn, 1) := by decide +kernel
theorem dX8_pays_0 : decode cX8_pays 0 = .ok (.iload_n 1, 1) := by decide +kernel
theorem dX8_pays_1 : decode cX8_pays 1 = .ok (.invokestatic 100, 3) := by decide +kernel
theorem dX8_pays_4 : decode cX8_pays 4 = .ok (.ifCond .eq 21, 3) := by decide +kernel
theorem dX8_pays_7 : decode cX8_pays 7 = .ok (.iload_n 2, 1) := by decide +kernel
theorem dX8_pays_8 : decode cX8_pays 8 = .ok (.invokestatic 103, 3) := by decide +kernel
theorem dX8_pays_11 : decode cX8_pays 11 = .ok (.ifCond .eq 14, 3) := by decide +kernel
theorem dX8_pays_14 : decode cX8_pays 14 = .ok (.iload 4, 2) := by decide +kernel
theorem dX8_pays_16 : decode cX8_pays 16 = .ok (.iconst 0, 1) := by decide +kernel
theorem dX8_pays_17 : decode cX8_pays 17 = .ok (.bipush 12, 2) := by decide +kernel
theorem dX8_pays_19 : decode cX8_pays 19 = .ok (.invokestatic 54, 3) := by decide +kernel
theorem dX8_pays_22 : decode cX8_pays 22 = .ok (.ifCond .ne 5, 3) := by decide +kernel
theorem dX8_pays_25 : decode cX8_pays 25 = .ok (.iconst (-1), 1) := by decide +kernel
theorem dX8_pays_26 : decode cX8_pays 26 = .ok (.ireturn, 1) := by decide +kernel
theorem dX8_pays_27 : decode cX8_pays 27 = .ok (.aload_n 0, 1) := by decide +kernel
theorem dX8_pays_28 : decode cX8_pays 28 = .ok (.getfield 49, 3) := by decide +kernel
theorem dX8_pays_31 : decode cX8_pays 31 = .ok (.iload_n 1, 1) := by decide +kernel
theorem dX8_pays_32 : decode cX8_pays 32 = .ok (.aaload, 1) := by decide +kernel
theorem dX8_pays_33 : decode cX8_pays 33 = .ok (.iload_n 2, 1) := by decide +kernel
theorem dX8_pays_34 : decode cX8_pays 34 = .ok (.iload_n 3, 1) := by decide +kernel
theorem dX8_pays_35 : decode cX8_pays 35 = .ok (.iconst 2, 1) := by decide +kernel
theorem dX8_pays_36 : decode cX8_pays 36 = .ok (.iload 4, 2) := by decide +kernel
theorem dX8_pays_38 : decode cX8_pays 38 = .ok (.imul, 1) := by decide +kernel
theorem dX8_pays_39 : decode cX8_pays 39 = .ok (.invokevirtual 106, 3) := by decide +kernel
theorem dX8_pays_42 : decode cX8_pays 42 = .ok (.istore 5, 2) := by decide +kernel
theorem dX8_pays_44 : decode cX8_pays 44 = .ok (.iload 5, 2) := by decide +kernel
theorem dX8_pays_46 : decode cX8_pays 46 = .ok (.ifCond .eq 6, 3) := by decide +kernel
theorem dX8_pays_49 : decode cX8_pays 49 = .ok (.iload 5, 2) := by decide +kernel
theorem dX8_pays_51 : decode cX8_pays 51 = .ok (.ireturn, 1) := by decide +kernel
theorem dX8_pays_52 : decode cX8_pays 52 = .ok (.aload_n 0, 1) := by decide +kernel
theorem dX8_pays_53 : decode cX8_pays 53 = .ok (.getfield 49, 3) := by decide +kernel
theorem dX8_pays_56 : decode cX8_pays 56 = .ok (.iload_n 1, 1) := by decide +kernel
theorem dX8_pays_57 : decode cX8_pays 57 = .ok (.aaload, 1) := by decide +kernel
theorem dX8_pays_58 : decode cX8_pays 58 = .ok (.getfield 110, 3) := by decide +kernel
theorem dX8_pays_61 : decode cX8_pays 61 = .ok (.astore 6, 2) := by decide +kernel
theorem dX8_pays_63 : decode cX8_pays 63 = .ok (.iconst 0, 1) := by decide +kernel
theorem dX8_pays_64 : decode cX8_pays 64 = .ok (.istore 7, 2) := by decide +kernel
theorem dX8_pays_66 : decode cX8_pays 66 = .ok (.iload 7, 2) := by decide +kernel
theorem dX8_pays_68 : decode cX8_pays 68 = .ok (.iload 4, 2) := by decide +kernel
theorem dX8_pays_70 : decode cX8_pays 70 = .ok (.if_icmp .ge 38, 3) := by decide +kernel
theorem dX8_pays_73 : decode cX8_pays 73 = .ok (.aload 6, 2) := by decide +kernel
theorem dX8_pays_75 : decode cX8_pays 75 = .ok (.iload_n 3, 1) := by decide +kernel
theorem dX8_pays_76 : decode cX8_pays 76 = .ok (.iconst 2, 1) := by decide +kernel
theorem dX8_pays_77 : decode cX8_pays 77 = .ok (.iload 7, 2) := by decide +kernel
theorem dX8_pays_79 : decode cX8_pays 79 = .ok (.imul, 1) := by decide +kernel
theorem dX8_pays_80 : decode cX8_pays 80 = .ok (.iadd, 1) := by decide +kernel
theorem dX8_pays_81 : decode cX8_pays 81 = .ok (.iaload, 1) := by decide +kernel
theorem dX8_pays_82 : decode cX8_pays 82 = .ok (.aload 6, 2) := by decide +kernel
theorem dX8_pays_84 : decode cX8_pays 84 = .ok (.iload_n 3, 1) := by decide +kernel
theorem dX8_pays_85 : decode cX8_pays 85 = .ok (.iconst 2, 1) := by decide +kernel
theorem dX8_pays_86 : decode cX8_pays 86 = .ok (.iload 7, 2) := by decide +kernel
theorem dX8_pays_88 : decode cX8_pays 88 = .ok (.imul, 1) := by decide +kernel
theorem dX8_pays_89 : decode cX8_pays 89 = .ok (.iadd, 1) := by decide +kernel
theorem dX8_pays_90 : decode cX8_pays 90 = .ok (.iconst 1, 1) := by decide +kernel
theorem dX8_pays_91 : decode cX8_pays 91 = .ok (.iadd, 1) := by decide +kernel
theorem dX8_pays_92 : decode cX8_pays 92 = .ok (.iaload, 1) := by decide +kernel
theorem dX8_pays_93 : decode cX8_pays 93 = .ok (.invokestatic 89, 3) := by decide +kernel
theorem dX8_pays_96 : decode cX8_pays 96 = .ok (.ifCond .ne 6, 3) := by decide +kernel
theorem dX8_pays_99 : decode cX8_pays 99 = .ok (.bipush (-2), 2) := by decide +kernel
theorem dX8_pays_101 : decode cX8_pays 101 = .ok (.ireturn, 1) := by decide +kernel
theorem dX8_pays_102 : decode cX8_pays 102 = .ok (.iinc 7 1, 3) := by decide +kernel
theorem dX8_pays_105 : decode cX8_pays 105 = .ok (.goto (-39), 3) := by decide +kernel
theorem dX8_pays_108 : decode cX8_pays 108 = .ok (.iload 4, 2) := by decide +kernel
theorem dX8_pays_110 : decode cX8_pays 110 = .ok (.bipush 12, 2) := by decide +kernel
theorem dX8_pays_112 : decode cX8_pays 112 = .ok (.aload_n 0, 1) := by decide +kernel
theorem dX8_pays_113 : decode cX8_pays 113 = .ok (.getfield 10, 3) := by decide +kernel
theorem dX8_pays_116 : decode cX8_pays 116 = .ok (.getfield 93, 3) := by decide +kernel
theorem dX8_pays_119 : decode cX8_pays 119 = .ok (.isub, 1) := by decide +kernel
theorem dX8_pays_120 : decode cX8_pays 120 = .ok (.if_icmp .le 6, 3) := by decide +kernel
theorem dX8_pays_123 : decode cX8_pays 123 = .ok (.bipush (-3), 2) := by decide +kernel
theorem dX8_pays_125 : decode cX8_pays 125 = .ok (.ireturn, 1) := by decide +kernel
theorem dX8_pays_126 : decode cX8_pays 126 = .ok (.iconst 0, 1) := by decide +kernel
theorem dX8_pays_127 : decode cX8_pays 127 = .ok (.istore 7, 2) := by decide +kernel
theorem dX8_pays_129 : decode cX8_pays 129 = .ok (.iload 7, 2) := by decide +kernel
theorem dX8_pays_131 : decode cX8_pays 131 = .ok (.iload 4, 2) := by decide +kernel
theorem dX8_pays_133 : decode cX8_pays 133 = .ok (.if_icmp .ge 36, 3) := by decide +kernel
theorem dX8_pays_136 : decode cX8_pays 136 = .ok (.aload_n 0, 1) := by decide +kernel
theorem dX8_pays_137 : decode cX8_pays 137 = .ok (.getfield 10, 3) := by decide +kernel
theorem dX8_pays_140 : decode cX8_pays 140 = .ok (.aload 6, 2) := by decide +kernel
theorem dX8_pays_142 : decode cX8_pays 142 = .ok (.iload_n 3, 1) := by decide +kernel
theorem dX8_pays_143 : decode cX8_pays 143 = .ok (.iconst 2, 1) := by decide +kernel
theorem dX8_pays_144 : decode cX8_pays 144 = .ok (.iload 7, 2) := by decide +kernel
theorem dX8_pays_146 : decode cX8_pays 146 = .ok (.imul, 1) := by decide +kernel
theorem dX8_pays_147 : decode cX8_pays 147 = .ok (.iadd, 1) := by decide +kernel
theorem dX8_pays_148 : decode cX8_pays 148 = .ok (.iaload, 1) := by decide +kernel
theorem dX8_pays_149 : decode cX8_pays 149 = .ok (.aload 6, 2) := by decide +kernel
theorem dX8_pays_151 : decode cX8_pays 151 = .ok (.iload_n 3, 1) := by decide +kernel
theorem dX8_pays_152 : decode cX8_pays 152 = .ok (.iconst 2, 1) := by decide +kernel
theorem dX8_pays_153 : decode cX8_pays 153 = .ok (.iload 7, 2) := by decide +kernel
theorem dX8_pays_155 : decode cX8_pays 155 = .ok (.imul, 1) := by decide +kernel
theorem dX8_pays_156 : decode cX8_pays 156 = .ok (.iadd, 1) := by decide +kernel
theorem dX8_pays_157 : decode cX8_pays 157 = .ok (.iconst 1, 1) := by decide +kernel
theorem dX8_pays_158 : decode cX8_pays 158 = .ok (.iadd, 1) := by decide +kernel
theorem dX8_pays_159 : decode cX8_pays 159 = .ok (.iaload, 1) := by decide +kernel
theorem dX8_pays_160 : decode cX8_pays 160 = .ok (.invokevirtual 96, 3) := by decide +kernel
theorem dX8_pays_163 : decode cX8_pays 163 = .ok (.iinc 7 1, 3) := by decide +kernel
theorem dX8_pays_166 : decode cX8_pays 166 = .ok (.goto (-37), 3) := by decide +kernel
theorem dX8_pays_169 : decode cX8_pays 169 = .ok (.iload 4, 2) := by decide +kernel
theorem dX8_pays_171 : decode cX8_pays 171 = .ok (.ireturn, 1) := by decide +kernel
theorem dX8_word_0 : decode cX8_word 0 = .ok (.aload_n 0, 1) := by decide +kernel
theorem dX8_word_1 : decode cX8_word 1 = .ok (.iload_n 1, 1) := by decide +kernel
theorem dX8_word_2 : decode cX8_word 2 = .ok (.invokevirtual 113, 3) := by decide +kernel
theorem dX8_word_5 : decode cX8_word 5 = .ok (.ifCond .eq 20, 3) := by decide +kernel
theorem dX8_word_8 : decode cX8_word 8 = .ok (.iload_n 2, 1) := by decide +kernel
theorem dX8_word_9 : decode cX8_word 9 = .ok (.iconst 0, 1) := by decide +kernel
theorem dX8_word_10 : decode cX8_word 10 = .ok (.iconst 1, 1) := by decide +kernel
theorem dX8_word_11 : decode cX8_word 11 = .ok (.invokestatic 54, 3) := by decide +kernel
theorem dX8_word_14 : decode cX8_word 14 = .ok (.ifCond .eq 11, 3) := by decide +kernel
theorem dX8_word_17 : decode cX8_word 17 = .ok (.aload_n 0, 1) := by decide +kernel
theorem dX8_word_18 : decode cX8_word 18 = .ok (.iload_n 3, 1) := by decide +kernel
theorem dX8_word_19 : decode cX8_word 19 = .ok (.invokevirtual 116, 3) := by decide +kernel
theorem dX8_word_22 : decode cX8_word 22 = .ok (.ifCond .ne 6, 3) := by decide +kernel
theorem dX8_word_25 : decode cX8_word 25 = .ok (.bipush (-101), 2) := by decide +kernel
theorem dX8_word_27 : decode cX8_word 27 = .ok (.ireturn, 1) := by decide +kernel
theorem dX8_word_28 : decode cX8_word 28 = .ok (.aload_n 0, 1) := by decide +kernel
theorem dX8_word_29 : decode cX8_word 29 = .ok (.getfield 10, 3) := by decide +kernel
theorem dX8_word_32 : decode cX8_word 32 = .ok (.getfield 119, 3) := by decide +kernel
theorem dX8_word_35 : decode cX8_word 35 = .ok (.iload_n 1, 1) := by decide +kernel
theorem dX8_word_36 : decode cX8_word 36 = .ok (.aaload, 1) := by decide +kernel
theorem dX8_word_37 : decode cX8_word 37 = .ok (.astore 4, 2) := by decide +kernel
theorem dX8_word_39 : decode cX8_word 39 = .ok (.iload_n 2, 1) := by decide +kernel
theorem dX8_word_40 : decode cX8_word 40 = .ok (.ifCond .ne 11, 3) := by decide +kernel
theorem dX8_word_43 : decode cX8_word 43 = .ok (.aload 4, 2) := by decide +kernel
theorem dX8_word_45 : decode cX8_word 45 = .ok (.getfield 123, 3) := by decide +kernel
theorem dX8_word_48 : decode cX8_word 48 = .ok (.goto 8, 3) := by decide +kernel
theorem dX8_word_51 : decode cX8_word 51 = .ok (.aload 4, 2) := by decide +kernel
theorem dX8_word_53 : decode cX8_word 53 = .ok (.getfield 128, 3) := by decide +kernel
theorem dX8_word_56 : decode cX8_word 56 = .ok (.istore 5, 2) := by decide +kernel
theorem dX8_word_58 : decode cX8_word 58 = .ok (.iload_n 2, 1) := by decide +kernel
theorem dX8_word_59 : decode cX8_word 59 = .ok (.ifCond .ne 12, 3) := by decide +kernel
theorem dX8_word_62 : decode cX8_word 62 = .ok (.aload 4, 2) := by decide +kernel
theorem dX8_word_64 : decode cX8_word 64 = .ok (.iload_n 3, 1) := by decide +kernel
theorem dX8_word_65 : decode cX8_word 65 = .ok (.putfield 123, 3) := by decide +kernel
theorem dX8_word_68 : decode cX8_word 68 = .ok (.goto 9, 3) := by decide +kernel
theorem dX8_word_71 : decode cX8_word 71 = .ok (.aload 4, 2) := by decide +kernel
theorem dX8_word_73 : decode cX8_word 73 = .ok (.iload_n 3, 1) := by decide +kernel
theorem dX8_word_74 : decode cX8_word 74 = .ok (.putfield 128, 3) := by decide +kernel
theorem dX8_word_77 : decode cX8_word 77 = .ok (.iload 5, 2) := by decide +kernel
theorem dX8_word_79 : decode cX8_word 79 = .ok (.ireturn, 1) := by decide +kernel
theorem dX8_move_0 : decode cX8_move 0 = .ok (.aload_n 0, 1) := by decide +kernel
theorem dX8_move_1 : decode cX8_move 1 = .ok (.iload_n 1, 1) := by decide +kernel
theorem dX8_move_2 : decode cX8_move 2 = .ok (.invokevirtual 113, 3) := by decide +kernel
theorem dX8_move_5 : decode cX8_move 5 = .ok (.ifCond .eq 10, 3) := by decide +kernel
theorem dX8_move_8 : decode cX8_move 8 = .ok (.iload_n 2, 1) := by decide +kernel
theorem dX8_move_9 : decode cX8_move 9 = .ok (.invokestatic 58, 3) := by decide +kernel
theorem dX8_move_12 : decode cX8_move 12 = .ok (.ifCond .ne 5, 3) := by decide +kernel
theorem dX8_move_15 : decode cX8_move 15 = .ok (.iconst (-1), 1) := by decide +kernel
theorem dX8_move_16 : decode cX8_move 16 = .ok (.ireturn, 1) := by decide +kernel
theorem dX8_move_17 : decode cX8_move 17 = .ok (.aload_n 0, 1) := by decide +kernel
theorem dX8_move_18 : decode cX8_move 18 = .ok (.getfield 10, 3) := by decide +kernel
theorem dX8_move_21 : decode cX8_move 21 = .ok (.getfield 119, 3) := by decide +kernel
theorem dX8_move_24 : decode cX8_move 24 = .ok (.iload_n 1, 1) := by decide +kernel
theorem dX8_move_25 : decode cX8_move 25 = .ok (.aaload, 1) := by decide +kernel
theorem dX8_move_26 : decode cX8_move 26 = .ok (.getfield 131, 3) := by decide +kernel
theorem dX8_move_29 : decode cX8_move 29 = .ok (.istore_n 3, 1) := by decide +kernel
theorem dX8_move_30 : decode cX8_move 30 = .ok (.aload_n 0, 1) := by decide +kernel
theorem dX8_move_31 : decode cX8_move 31 = .ok (.getfield 10, 3) := by decide +kernel
theorem dX8_move_34 : decode cX8_move 34 = .ok (.getfield 119, 3) := by decide +kernel
theorem dX8_move_37 : decode cX8_move 37 = .ok (.iload_n 1, 1) := by decide +kernel
theorem dX8_move_38 : decode cX8_move 38 = .ok (.aaload, 1) := by decide +kernel
theorem dX8_move_39 : decode cX8_move 39 = .ok (.iload_n 2, 1) := by decide +kernel
theorem dX8_move_40 : decode cX8_move 40 = .ok (.putfield 131, 3) := by decide +kernel
theorem dX8_move_43 : decode cX8_move 43 = .ok (.iload_n 3, 1) := by decide +kernel
theorem dX8_move_44 : decode cX8_move 44 = .ok (.ireturn, 1) := by decide +kernel
theorem dX8_count_0 : decode cX8_count 0 = .ok (.iload_n 1, 1) := by decide +kernel
theorem dX8_count_1 : decode cX8_count 1 = .ok (.tableswitch 67 0 3 #[31, 39, 47, 57], 31) := by decide +kernel
theorem dX8_count_32 : decode cX8_count 32 = .ok (.aload_n 0, 1) := by decide +kernel
theorem dX8_count_33 : decode cX8_count 33 = .ok (.getfield 10, 3) := by decide +kernel
theorem dX8_count_36 : decode cX8_count 36 = .ok (.getfield 62, 3) := by decide +kernel
theorem dX8_count_39 : decode cX8_count 39 = .ok (.ireturn, 1) := by decide +kernel
theorem dX8_count_40 : decode cX8_count 40 = .ok (.aload_n 0, 1) := by decide +kernel
theorem dX8_count_41 : decode cX8_count 41 = .ok (.getfield 10, 3) := by decide +kernel
theorem dX8_count_44 : decode cX8_count 44 = .ok (.getfield 93, 3) := by decide +kernel
theorem dX8_count_47 : decode cX8_count 47 = .ok (.ireturn, 1) := by decide +kernel
theorem dX8_count_48 : decode cX8_count 48 = .ok (.aload_n 0, 1) := by decide +kernel
theorem dX8_count_49 : decode cX8_count 49 = .ok (.getfield 10, 3) := by decide +kernel
theorem dX8_count_52 : decode cX8_count 52 = .ok (.iconst 1, 1) := by decide +kernel
theorem dX8_count_53 : decode cX8_count 53 = .ok (.iconst 0, 1) := by decide +kernel
theorem dX8_count_54 : decode cX8_count 54 = .ok (.invokevirtual 134, 3) := by decide +kernel
theorem dX8_count_57 : decode cX8_count 57 = .ok (.ireturn, 1) := by decide +kernel
theorem dX8_count_58 : decode cX8_count 58 = .ok (.aload_n 0, 1) := by decide +kernel
theorem dX8_count_59 : decode cX8_count 59 = .ok (.getfield 10, 3) := by decide +kernel
theorem dX8_count_62 : decode cX8_count 62 = .ok (.iconst 2, 1) := by decide +kernel
theorem dX8_count_63 : decode cX8_count 63 = .ok (.iconst 1, 1) := by decide +kernel
theorem dX8_count_64 : decode cX8_count 64 = .ok (.invokevirtual 134, 3) := by decide +kernel
theorem dX8_count_67 : decode cX8_count 67 = .ok (.ireturn, 1) := by decide +kernel
theorem dX8_count_68 : decode cX8_count 68 = .ok (.iconst (-1), 1) := by decide +kernel
theorem dX8_count_69 : decode cX8_count 69 = .ok (.ireturn, 1) := by decide +kernel
theorem dX8_type_0 : decode cX8_type 0 = .ok (.iload_n 3, 1) := by decide +kernel
theorem dX8_type_1 : decode cX8_type 1 = .ok (.iconst 1, 1) := by decide +kernel
theorem dX8_type_2 : decode cX8_type 2 = .ok (.bipush 8, 2) := by decide +kernel
theorem dX8_type_4 : decode cX8_type 4 = .ok (.invokestatic 54, 3) := by decide +kernel
theorem dX8_type_7 : decode cX8_type 7 = .ok (.ifCond .eq 11, 3) := by decide +kernel
theorem dX8_type_10 : decode cX8_type 10 = .ok (.lload_n 1, 1) := by decide +kernel
theorem dX8_type_11 : decode cX8_type 11 = .ok (.iload_n 3, 1) := by decide +kernel
theorem dX8_type_12 : decode cX8_type 12 = .ok (.invokestatic 138, 3) := by decide +kernel
theorem dX8_type_15 : decode cX8_type 15 = .ok (.ifCond .ne 5, 3) := by decide +kernel
theorem dX8_type_18 : decode cX8_type 18 = .ok (.iconst (-1), 1) := by decide +kernel
theorem dX8_type_19 : decode cX8_type 19 = .ok (.ireturn, 1) := by decide +kernel
theorem dX8_type_20 : decode cX8_type 20 = .ok (.iload_n 3, 1) := by decide +kernel
theorem dX8_type_21 : decode cX8_type 21 = .ok (.bipush 40, 2) := by decide +kernel
theorem dX8_type_23 : decode cX8_type 23 = .ok (.aload_n 0, 1) := by decide +kernel
theorem dX8_type_24 : decode cX8_type 24 = .ok (.getfield 43, 3) := by decide +kernel
theorem dX8_type_27 : decode cX8_type 27 = .ok (.getfield 142, 3) := by decide +kernel
theorem dX8_type_30 : decode cX8_type 30 = .ok (.isub, 1) := by decide +kernel
theorem dX8_type_31 : decode cX8_type 31 = .ok (.if_icmp .le 6, 3) := by decide +kernel
theorem dX8_type_34 : decode cX8_type 34 = .ok (.bipush (-3), 2) := by decide +kernel
theorem dX8_type_36 : decode cX8_type 36 = .ok (.ireturn, 1) := by decide +kernel
theorem dX8_type_37 : decode cX8_type 37 = .ok (.iload_n 3, 1) := by decide +kernel
theorem dX8_type_38 : decode cX8_type 38 = .ok (.iconst 1, 1) := by decide +kernel
theorem dX8_type_39 : decode cX8_type 39 = .ok (.isub, 1) := by decide +kernel
theorem dX8_type_40 : decode cX8_type 40 = .ok (.istore 4, 2) := by decide +kernel
theorem dX8_type_42 : decode cX8_type 42 = .ok (.iload 4, 2) := by decide +kernel
theorem dX8_type_44 : decode cX8_type 44 = .ok (.ifCond .lt 22, 3) := by decide +kernel
theorem dX8_type_47 : decode cX8_type 47 = .ok (.aload_n 0, 1) := by decide +kernel
theorem dX8_type_48 : decode cX8_type 48 = .ok (.getfield 43, 3) := by decide +kernel
theorem dX8_type_51 : decode cX8_type 51 = .ok (.lload_n 1, 1) := by decide +kernel
theorem dX8_type_52 : decode cX8_type 52 = .ok (.iload 4, 2) := by decide +kernel
theorem dX8_type_54 : decode cX8_type 54 = .ok (.invokestatic 145, 3) := by decide +kernel
theorem dX8_type_57 : decode cX8_type 57 = .ok (.invokevirtual 149, 3) := by decide +kernel
theorem dX8_type_60 : decode cX8_type 60 = .ok (.iinc 4 (-1), 3) := by decide +kernel
theorem dX8_type_63 : decode cX8_type 63 = .ok (.goto (-21), 3) := by decide +kernel
theorem dX8_type_66 : decode cX8_type 66 = .ok (.aload_n 0, 1) := by decide +kernel
theorem dX8_type_67 : decode cX8_type 67 = .ok (.getfield 43, 3) := by decide +kernel
theorem dX8_type_70 : decode cX8_type 70 = .ok (.getfield 142, 3) := by decide +kernel
theorem dX8_type_73 : decode cX8_type 73 = .ok (.ireturn, 1) := by decide +kernel
theorem dX8_law_0 : decode cX8_law 0 = .ok (.iload_n 1, 1) := by decide +kernel
theorem dX8_law_1 : decode cX8_law 1 = .ok (.invokestatic 153, 3) := by decide +kernel
theorem dX8_law_4 : decode cX8_law 4 = .ok (.ifCond .ne 5, 3) := by decide +kernel
theorem dX8_law_7 : decode cX8_law 7 = .ok (.iconst (-1), 1) := by decide +kernel
theorem dX8_law_8 : decode cX8_law 8 = .ok (.ireturn, 1) := by decide +kernel
theorem dX8_law_9 : decode cX8_law 9 = .ok (.aload_n 0, 1) := by decide +kernel
theorem dX8_law_10 : decode cX8_law 10 = .ok (.getfield 43, 3) := by decide +kernel
theorem dX8_law_13 : decode cX8_law 13 = .ok (.invokevirtual 156, 3) := by decide +kernel
theorem dX8_law_16 : decode cX8_law 16 = .ok (.istore_n 2, 1) := by decide +kernel
theorem dX8_law_17 : decode cX8_law 17 = .ok (.iload_n 2, 1) := by decide +kernel
theorem dX8_law_18 : decode cX8_law 18 = .ok (.ifCond .ne 19, 3) := by decide +kernel
theorem dX8_law_21 : decode cX8_law 21 = .ok (.aload_n 0, 1) := by decide +kernel
theorem dX8_law_22 : decode cX8_law 22 = .ok (.getfield 10, 3) := by decide +kernel
theorem dX8_law_25 : decode cX8_law 25 = .ok (.getfield 160, 3) := by decide +kernel
theorem dX8_law_28 : decode cX8_law 28 = .ok (.iload_n 1, 1) := by decide +kernel
theorem dX8_law_29 : decode cX8_law 29 = .ok (.aaload, 1) := by decide +kernel
theorem dX8_law_30 : decode cX8_law 30 = .ok (.aload_n 0, 1) := by decide +kernel
theorem dX8_law_31 : decode cX8_law 31 = .ok (.getfield 43, 3) := by decide +kernel
theorem dX8_law_34 : decode cX8_law 34 = .ok (.invokevirtual 164, 3) := by decide +kernel
theorem dX8_law_37 : decode cX8_law 37 = .ok (.aload_n 0, 1) := by decide +kernel
theorem dX8_law_38 : decode cX8_law 38 = .ok (.getfield 43, 3) := by decide +kernel
theorem dX8_law_41 : decode cX8_law 41 = .ok (.iconst 0, 1) := by decide +kernel
theorem dX8_law_42 : decode cX8_law 42 = .ok (.putfield 142, 3) := by decide +kernel
theorem dX8_law_45 : decode cX8_law 45 = .ok (.iload_n 2, 1) := by decide +kernel
theorem dX8_law_46 : decode cX8_law 46 = .ok (.ifCond .ne 18, 3) := by decide +kernel
theorem dX8_law_49 : decode cX8_law 49 = .ok (.aload_n 0, 1) := by decide +kernel
theorem dX8_law_50 : decode cX8_law 50 = .ok (.getfield 10, 3) := by decide +kernel
theorem dX8_law_53 : decode cX8_law 53 = .ok (.getfield 160, 3) := by decide +kernel
theorem dX8_law_56 : decode cX8_law 56 = .ok (.iload_n 1, 1) := by decide +kernel
theorem dX8_law_57 : decode cX8_law 57 = .ok (.aaload, 1) := by decide +kernel
theorem dX8_law_58 : decode cX8_law 58 = .ok (.getfield 170, 3) := by decide +kernel
theorem dX8_law_61 : decode cX8_law 61 = .ok (.goto 4, 3) := by decide +kernel
theorem dX8_law_64 : decode cX8_law 64 = .ok (.iload_n 2, 1) := by decide +kernel
theorem dX8_law_65 : decode cX8_law 65 = .ok (.ireturn, 1) := by decide +kernel
theorem dX8_letter_0 : decode cX8_letter 0 = .ok (.iload_n 1, 1) := by decide +kernel
theorem dX8_letter_1 : decode cX8_letter 1 = .ok (.invokestatic 153, 3) := by decide +kernel
theorem dX8_letter_4 : decode cX8_letter 4 = .ok (.ifCond .eq 7, 3) := by decide +kernel
theorem dX8_letter_7 : decode cX8_letter 7 = .ok (.iload_n 2, 1) := by decide +kernel
theorem dX8_letter_8 : decode cX8_letter 8 = .ok (.ifCond .ge 5, 3) := by decide +kernel
theorem dX8_letter_11 : decode cX8_letter 11 = .ok (.iconst (-1), 1) := by decide +kernel
theorem dX8_letter_12 : decode cX8_letter 12 = .ok (.ireturn, 1) := by decide +kernel
theorem dX8_letter_13 : decode cX8_letter 13 = .ok (.aload_n 0, 1) := by decide +kernel
theorem dX8_letter_14 : decode cX8_letter 14 = .ok (.getfield 10, 3) := by decide +kernel
theorem dX8_letter_17 : decode cX8_letter 17 = .ok (.getfield 160, 3) := by decide +kernel
theorem dX8_letter_20 : decode cX8_letter 20 = .ok (.iload_n 1, 1) := by decide +kernel
theorem dX8_letter_21 : decode cX8_letter 21 = .ok (.aaload, 1) := by decide +kernel
theorem dX8_letter_22 : decode cX8_letter 22 = .ok (.astore_n 3, 1) := by decide +kernel
theorem dX8_letter_23 : decode cX8_letter 23 = .ok (.iload_n 2, 1) := by decide +kernel
theorem dX8_letter_24 : decode cX8_letter 24 = .ok (.aload_n 3, 1) := by decide +kernel
theorem dX8_letter_25 : decode cX8_letter 25 = .ok (.getfield 170, 3) := by decide +kernel
theorem dX8_letter_28 : decode cX8_letter 28 = .ok (.if_icmp .ge 18, 3) := by decide +kernel
theorem dX8_letter_31 : decode cX8_letter 31 = .ok (.iload_n 2, 1) := by decide +kernel
theorem dX8_letter_32 : decode cX8_letter 32 = .ok (.bipush 10, 2) := by decide +kernel
theorem dX8_letter_34 : decode cX8_letter 34 = .ok (.if_icmp .ge 12, 3) := by decide +kernel
theorem dX8_letter_37 : decode cX8_letter 37 = .ok (.aload_n 3, 1) := by decide +kernel
theorem dX8_letter_38 : decode cX8_letter 38 = .ok (.getfield 171, 3) := by decide +kernel
theorem dX8_letter_41 : decode cX8_letter 41 = .ok (.iload_n 2, 1) := by decide +kernel
theorem dX8_letter_42 : decode cX8_letter 42 = .ok (.iaload, 1) := by decide +kernel
theorem dX8_letter_43 : decode cX8_letter 43 = .ok (.goto 5, 3) := by decide +kernel
theorem dX8_letter_46 : decode cX8_letter 46 = .ok (.bipush (-4), 2) := by decide +kernel
theorem dX8_letter_48 : decode cX8_letter 48 = .ok (.ireturn, 1) := by decide +kernel
theorem dX8_left_0 : decode cX8_left 0 = .ok (.iload_n 1, 1) := by decide +kernel
theorem dX8_left_1 : decode cX8_left 1 = .ok (.invokestatic 153, 3) := by decide +kernel
theorem dX8_left_4 : decode cX8_left 4 = .ok (.ifCond .eq 28, 3) := by decide +kernel
theorem dX8_left_7 : decode cX8_left 7 = .ok (.aload_n 0, 1) := by decide +kernel
theorem dX8_left_8 : decode cX8_left 8 = .ok (.iload_n 2, 1) := by decide +kernel
theorem dX8_left_9 : decode cX8_left 9 = .ok (.invokevirtual 76, 3) := by decide +kernel
theorem dX8_left_12 : decode cX8_left 12 = .ok (.ifCond .eq 20, 3) := by decide +kernel
theorem dX8_left_15 : decode cX8_left 15 = .ok (.iload_n 3, 1) := by decide +kernel
theorem dX8_left_16 : decode cX8_left 16 = .ok (.invokestatic 58, 3) := by decide +kernel
theorem dX8_left_19 : decode cX8_left 19 = .ok (.ifCond .eq 13, 3) := by decide +kernel
theorem dX8_left_22 : decode cX8_left 22 = .ok (.iload 4, 2) := by decide +kernel
theorem dX8_left_24 : decode cX8_left 24 = .ok (.iconst 0, 1) := by decide +kernel
theorem dX8_left_25 : decode cX8_left 25 = .ok (.iconst 2, 1) := by decide +kernel
theorem dX8_left_26 : decode cX8_left 26 = .ok (.invokestatic 54, 3) := by decide +kernel
theorem dX8_left_29 : decode cX8_left 29 = .ok (.ifCond .ne 7, 3) := by decide +kernel
theorem dX8_left_32 : decode cX8_left 32 = .ok (.ldc2_w 174, 3) := by decide +kernel
theorem dX8_left_35 : decode cX8_left 35 = .ok (.lreturn, 1) := by decide +kernel
theorem dX8_left_36 : decode cX8_left 36 = .ok (.aload_n 0, 1) := by decide +kernel
theorem dX8_left_37 : decode cX8_left 37 = .ok (.iload_n 1, 1) := by decide +kernel
theorem dX8_left_38 : decode cX8_left 38 = .ok (.iload_n 3, 1) := by decide +kernel
theorem dX8_left_39 : decode cX8_left 39 = .ok (.invokevirtual 176, 3) := by decide +kernel
theorem dX8_left_42 : decode cX8_left 42 = .ok (.iload 4, 2) := by decide +kernel
theorem dX8_left_44 : decode cX8_left 44 = .ok (.ifCond .ne 14, 3) := by decide +kernel
theorem dX8_left_47 : decode cX8_left 47 = .ok (.aload_n 0, 1) := by decide +kernel
theorem dX8_left_48 : decode cX8_left 48 = .ok (.getfield 26, 3) := by decide +kernel
theorem dX8_left_51 : decode cX8_left 51 = .ok (.iload_n 2, 1) := by decide +kernel
theorem dX8_left_52 : decode cX8_left 52 = .ok (.invokevirtual 179, 3) := by decide +kernel
theorem dX8_left_55 : decode cX8_left 55 = .ok (.goto 28, 3) := by decide +kernel
theorem dX8_left_58 : decode cX8_left 58 = .ok (.iload 4, 2) := by decide +kernel
theorem dX8_left_60 : decode cX8_left 60 = .ok (.iconst 1, 1) := by decide +kernel
theorem dX8_left_61 : decode cX8_left 61 = .ok (.if_icmp .ne 14, 3) := by decide +kernel
theorem dX8_left_64 : decode cX8_left 64 = .ok (.aload_n 0, 1) := by decide +kernel
theorem dX8_left_65 : decode cX8_left 65 = .ok (.getfield 26, 3) := by decide +kernel
theorem dX8_left_68 : decode cX8_left 68 = .ok (.iload_n 2, 1) := by decide +kernel
theorem dX8_left_69 : decode cX8_left 69 = .ok (.invokevirtual 183, 3) := by decide +kernel
theorem dX8_left_72 : decode cX8_left 72 = .ok (.goto 11, 3) := by decide +kernel
theorem dX8_left_75 : decode cX8_left 75 = .ok (.aload_n 0, 1) := by decide +kernel
theorem dX8_left_76 : decode cX8_left 76 = .ok (.getfield 26, 3) := by decide +kernel
theorem dX8_left_79 : decode cX8_left 79 = .ok (.iload_n 2, 1) := by decide +kernel
theorem dX8_left_80 : decode cX8_left 80 = .ok (.invokevirtual 186, 3) := by decide +kernel
theorem dX8_left_83 : decode cX8_left 83 = .ok (.lreturn, 1) := by decide +kernel
theorem dX8_owed_0 : decode cX8_owed 0 = .ok (.iload_n 1, 1) := by decide +kernel
theorem dX8_owed_1 : decode cX8_owed 1 = .ok (.invokestatic 153, 3) := by decide +kernel
theorem dX8_owed_4 : decode cX8_owed 4 = .ok (.ifCond .eq 10, 3) := by decide +kernel
theorem dX8_owed_7 : decode cX8_owed 7 = .ok (.iload_n 2, 1) := by decide +kernel
theorem dX8_owed_8 : decode cX8_owed 8 = .ok (.invokestatic 58, 3) := by decide +kernel
theorem dX8_owed_11 : decode cX8_owed 11 = .ok (.ifCond .ne 7, 3) := by decide +kernel
theorem dX8_owed_14 : decode cX8_owed 14 = .ok (.ldc2_w 174, 3) := by decide +kernel
theorem dX8_owed_17 : decode cX8_owed 17 = .ok (.lreturn, 1) := by decide +kernel
theorem dX8_owed_18 : decode cX8_owed 18 = .ok (.aload_n 0, 1) := by decide +kernel
theorem dX8_owed_19 : decode cX8_owed 19 = .ok (.iload_n 1, 1) := by decide +kernel
theorem dX8_owed_20 : decode cX8_owed 20 = .ok (.iload_n 2, 1) := by decide +kernel
theorem dX8_owed_21 : decode cX8_owed 21 = .ok (.invokevirtual 176, 3) := by decide +kernel
theorem dX8_owed_24 : decode cX8_owed 24 = .ok (.aload_n 0, 1) := by decide +kernel
theorem dX8_owed_25 : decode cX8_owed 25 = .ok (.getfield 26, 3) := by decide +kernel
theorem dX8_owed_28 : decode cX8_owed 28 = .ok (.invokevirtual 189, 3) := by decide +kernel
theorem dX8_owed_31 : decode cX8_owed 31 = .ok (.lreturn, 1) := by decide +kernel
theorem dX8_put_0 : decode cX8_put 0 = .ok (.iload_n 1, 1) := by decide +kernel
theorem dX8_put_1 : decode cX8_put 1 = .ok (.invokestatic 153, 3) := by decide +kernel
theorem dX8_put_4 : decode cX8_put 4 = .ok (.ifCond .eq 29, 3) := by decide +kernel
theorem dX8_put_7 : decode cX8_put 7 = .ok (.aload_n 0, 1) := by decide +kernel
theorem dX8_put_8 : decode cX8_put 8 = .ok (.iload_n 2, 1) := by decide +kernel
theorem dX8_put_9 : decode cX8_put 9 = .ok (.invokevirtual 113, 3) := by decide +kernel
theorem dX8_put_12 : decode cX8_put 12 = .ok (.ifCond .eq 21, 3) := by decide +kernel
theorem dX8_put_15 : decode cX8_put 15 = .ok (.aload_n 0, 1) := by decide +kernel
theorem dX8_put_16 : decode cX8_put 16 = .ok (.iload_n 3, 1) := by decide +kernel
theorem dX8_put_17 : decode cX8_put 17 = .ok (.invokevirtual 116, 3) := by decide +kernel
theorem dX8_put_20 : decode cX8_put 20 = .ok (.ifCond .eq 13, 3) := by decide +kernel
theorem dX8_put_23 : decode cX8_put 23 = .ok (.iload 4, 2) := by decide +kernel
theorem dX8_put_25 : decode cX8_put 25 = .ok (.iconst 0, 1) := by decide +kernel
theorem dX8_put_26 : decode cX8_put 26 = .ok (.iconst 1, 1) := by decide +kernel
theorem dX8_put_27 : decode cX8_put 27 = .ok (.invokestatic 54, 3) := by decide +kernel
theorem dX8_put_30 : decode cX8_put 30 = .ok (.ifCond .ne 7, 3) := by decide +kernel
theorem dX8_put_33 : decode cX8_put 33 = .ok (.ldc2_w 174, 3) := by decide +kernel
theorem dX8_put_36 : decode cX8_put 36 = .ok (.lreturn, 1) := by decide +kernel
theorem dX8_put_37 : decode cX8_put 37 = .ok (.aload_n 0, 1) := by decide +kernel
theorem dX8_put_38 : decode cX8_put 38 = .ok (.getfield 26, 3) := by decide +kernel
theorem dX8_put_41 : decode cX8_put 41 = .ok (.aload_n 0, 1) := by decide +kernel
theorem dX8_put_42 : decode cX8_put 42 = .ok (.getfield 10, 3) := by decide +kernel
theorem dX8_put_45 : decode cX8_put 45 = .ok (.iload_n 1, 1) := by decide +kernel
theorem dX8_put_46 : decode cX8_put 46 = .ok (.invokevirtual 193, 3) := by decide +kernel
theorem dX8_put_49 : decode cX8_put 49 = .ok (.aload_n 0, 1) := by decide +kernel
theorem dX8_put_50 : decode cX8_put 50 = .ok (.getfield 26, 3) := by decide +kernel
theorem dX8_put_53 : decode cX8_put 53 = .ok (.iload_n 2, 1) := by decide +kernel
theorem dX8_put_54 : decode cX8_put 54 = .ok (.invokevirtual 197, 3) := by decide +kernel
theorem dX8_put_57 : decode cX8_put 57 = .ok (.iload_n 3, 1) := by decide +kernel
theorem dX8_put_58 : decode cX8_put 58 = .ok (.iconst (-1), 1) := by decide +kernel
theorem dX8_put_59 : decode cX8_put 59 = .ok (.if_icmp .ne 11, 3) := by decide +kernel
theorem dX8_put_62 : decode cX8_put 62 = .ok (.aload_n 0, 1) := by decide +kernel
theorem dX8_put_63 : decode cX8_put 63 = .ok (.getfield 26, 3) := by decide +kernel
theorem dX8_put_66 : decode cX8_put 66 = .ok (.getfield 200, 3) := by decide +kernel
theorem dX8_put_69 : decode cX8_put 69 = .ok (.lreturn, 1) := by decide +kernel
theorem dX8_put_70 : decode cX8_put 70 = .ok (.iload 4, 2) := by decide +kernel
theorem dX8_put_72 : decode cX8_put 72 = .ok (.ifCond .ne 15, 3) := by decide +kernel
theorem dX8_put_75 : decode cX8_put 75 = .ok (.aload_n 0, 1) := by decide +kernel
theorem dX8_put_76 : decode cX8_put 76 = .ok (.getfield 26, 3) := by decide +kernel
theorem dX8_put_79 : decode cX8_put 79 = .ok (.getfield 204, 3) := by decide +kernel
theorem dX8_put_82 : decode cX8_put 82 = .ok (.iload_n 3, 1) := by decide +kernel
theorem dX8_put_83 : decode cX8_put 83 = .ok (.laload, 1) := by decide +kernel
theorem dX8_put_84 : decode cX8_put 84 = .ok (.goto 12, 3) := by decide +kernel
theorem dX8_put_87 : decode cX8_put 87 = .ok (.aload_n 0, 1) := by decide +kernel
theorem dX8_put_88 : decode cX8_put 88 = .ok (.getfield 26, 3) := by decide +kernel
theorem dX8_put_91 : decode cX8_put 91 = .ok (.getfield 208, 3) := by decide +kernel
theorem dX8_put_94 : decode cX8_put 94 = .ok (.iload_n 3, 1) := by decide +kernel
theorem dX8_put_95 : decode cX8_put 95 = .ok (.laload, 1) := by decide +kernel
theorem dX8_put_96 : decode cX8_put 96 = .ok (.lreturn, 1) := by decide +kernel
theorem dX8_paid_0 : decode cX8_paid 0 = .ok (.iload_n 1, 1) := by decide +kernel
theorem dX8_paid_1 : decode cX8_paid 1 = .ok (.invokestatic 153, 3) := by decide +kernel
theorem dX8_paid_4 : decode cX8_paid 4 = .ok (.ifCond .eq 11, 3) := by decide +kernel
theorem dX8_paid_7 : decode cX8_paid 7 = .ok (.aload_n 0, 1) := by decide +kernel
theorem dX8_paid_8 : decode cX8_paid 8 = .ok (.iload_n 2, 1) := by decide +kernel
theorem dX8_paid_9 : decode cX8_paid 9 = .ok (.invokevirtual 76, 3) := by decide +kernel
theorem dX8_paid_12 : decode cX8_paid 12 = .ok (.ifCond .ne 5, 3) := by decide +kernel
theorem dX8_paid_15 : decode cX8_paid 15 = .ok (.iconst (-1), 1) := by decide +kernel
theorem dX8_paid_16 : decode cX8_paid 16 = .ok (.ireturn, 1) := by decide +kernel
theorem dX8_paid_17 : decode cX8_paid 17 = .ok (.aload_n 0, 1) := by decide +kernel
theorem dX8_paid_18 : decode cX8_paid 18 = .ok (.iload_n 1, 1) := by decide +kernel
theorem dX8_paid_19 : decode cX8_paid 19 = .ok (.sipush 299, 3) := by decide +kernel
theorem dX8_paid_22 : decode cX8_paid 22 = .ok (.invokevirtual 176, 3) := by decide +kernel
theorem dX8_paid_25 : decode cX8_paid 25 = .ok (.aload_n 0, 1) := by decide +kernel
theorem dX8_paid_26 : decode cX8_paid 26 = .ok (.getfield 26, 3) := by decide +kernel
theorem dX8_paid_29 : decode cX8_paid 29 = .ok (.getfield 211, 3) := by decide +kernel
theorem dX8_paid_32 : decode cX8_paid 32 = .ok (.iload_n 2, 1) := by decide +kernel
theorem dX8_paid_33 : decode cX8_paid 33 = .ok (.iaload, 1) := by decide +kernel
theorem dX8_paid_34 : decode cX8_paid 34 = .ok (.invokestatic 214, 3) := by decide +kernel
theorem dX8_paid_37 : decode cX8_paid 37 = .ok (.ireturn, 1) := by decide +kernel
theorem dX8_dead_0 : decode cX8_dead 0 = .ok (.iload_n 1, 1) := by decide +kernel
theorem dX8_dead_1 : decode cX8_dead 1 = .ok (.invokestatic 153, 3) := by decide +kernel
theorem dX8_dead_4 : decode cX8_dead 4 = .ok (.ifCond .eq 18, 3) := by decide +kernel
theorem dX8_dead_7 : decode cX8_dead 7 = .ok (.aload_n 0, 1) := by decide +kernel
theorem dX8_dead_8 : decode cX8_dead 8 = .ok (.iload_n 2, 1) := by decide +kernel
theorem dX8_dead_9 : decode cX8_dead 9 = .ok (.invokevirtual 76, 3) := by decide +kernel
theorem dX8_dead_12 : decode cX8_dead 12 = .ok (.ifCond .eq 10, 3) := by decide +kernel
theorem dX8_dead_15 : decode cX8_dead 15 = .ok (.iload_n 3, 1) := by decide +kernel
theorem dX8_dead_16 : decode cX8_dead 16 = .ok (.invokestatic 58, 3) := by decide +kernel
theorem dX8_dead_19 : decode cX8_dead 19 = .ok (.ifCond .ne 5, 3) := by decide +kernel
theorem dX8_dead_22 : decode cX8_dead 22 = .ok (.iconst (-1), 1) := by decide +kernel
theorem dX8_dead_23 : decode cX8_dead 23 = .ok (.ireturn, 1) := by decide +kernel
theorem dX8_dead_24 : decode cX8_dead 24 = .ok (.aload_n 0, 1) := by decide +kernel
theorem dX8_dead_25 : decode cX8_dead 25 = .ok (.getfield 26, 3) := by decide +kernel
theorem dX8_dead_28 : decode cX8_dead 28 = .ok (.aload_n 0, 1) := by decide +kernel
theorem dX8_dead_29 : decode cX8_dead 29 = .ok (.getfield 10, 3) := by decide +kernel
theorem dX8_dead_32 : decode cX8_dead 32 = .ok (.iload_n 1, 1) := by decide +kernel
theorem dX8_dead_33 : decode cX8_dead 33 = .ok (.invokevirtual 193, 3) := by decide +kernel
theorem dX8_dead_36 : decode cX8_dead 36 = .ok (.aload_n 0, 1) := by decide +kernel
theorem dX8_dead_37 : decode cX8_dead 37 = .ok (.getfield 26, 3) := by decide +kernel
theorem dX8_dead_40 : decode cX8_dead 40 = .ok (.iload_n 3, 1) := by decide +kernel
theorem dX8_dead_41 : decode cX8_dead 41 = .ok (.invokevirtual 218, 3) := by decide +kernel
theorem dX8_dead_44 : decode cX8_dead 44 = .ok (.aload_n 0, 1) := by decide +kernel
theorem dX8_dead_45 : decode cX8_dead 45 = .ok (.getfield 26, 3) := by decide +kernel
theorem dX8_dead_48 : decode cX8_dead 48 = .ok (.invokevirtual 221, 3) := by decide +kernel
theorem dX8_dead_51 : decode cX8_dead 51 = .ok (.aload_n 0, 1) := by decide +kernel
theorem dX8_dead_52 : decode cX8_dead 52 = .ok (.getfield 26, 3) := by decide +kernel
theorem dX8_dead_55 : decode cX8_dead 55 = .ok (.getfield 224, 3) := by decide +kernel
theorem dX8_dead_58 : decode cX8_dead 58 = .ok (.iload_n 2, 1) := by decide +kernel
theorem dX8_dead_59 : decode cX8_dead 59 = .ok (.baload, 1) := by decide +kernel
theorem dX8_dead_60 : decode cX8_dead 60 = .ok (.ifCond .eq 7, 3) := by decide +kernel
theorem dX8_dead_63 : decode cX8_dead 63 = .ok (.iconst 1, 1) := by decide +kernel
theorem dX8_dead_64 : decode cX8_dead 64 = .ok (.goto 4, 3) := by decide +kernel
theorem dX8_dead_67 : decode cX8_dead 67 = .ok (.iconst 0, 1) := by decide +kernel
theorem dX8_dead_68 : decode cX8_dead 68 = .ok (.ireturn, 1) := by decide +kernel
theorem dX8_wakes_0 : decode cX8_wakes 0 = .ok (.iload_n 1, 1) := by decide +kernel
theorem dX8_wakes_1 : decode cX8_wakes 1 = .ok (.invokestatic 153, 3) := by decide +kernel
theorem dX8_wakes_4 : decode cX8_wakes 4 = .ok (.ifCond .eq 11, 3) := by decide +kernel
theorem dX8_wakes_7 : decode cX8_wakes 7 = .ok (.aload_n 0, 1) := by decide +kernel
theorem dX8_wakes_8 : decode cX8_wakes 8 = .ok (.iload_n 2, 1) := by decide +kernel
theorem dX8_wakes_9 : decode cX8_wakes 9 = .ok (.invokevirtual 76, 3) := by decide +kernel
theorem dX8_wakes_12 : decode cX8_wakes 12 = .ok (.ifCond .ne 5, 3) := by decide +kernel
theorem dX8_wakes_15 : decode cX8_wakes 15 = .ok (.iconst (-1), 1) := by decide +kernel
theorem dX8_wakes_16 : decode cX8_wakes 16 = .ok (.ireturn, 1) := by decide +kernel
theorem dX8_wakes_17 : decode cX8_wakes 17 = .ok (.aload_n 0, 1) := by decide +kernel
theorem dX8_wakes_18 : decode cX8_wakes 18 = .ok (.iload_n 1, 1) := by decide +kernel
theorem dX8_wakes_19 : decode cX8_wakes 19 = .ok (.sipush 299, 3) := by decide +kernel
theorem dX8_wakes_22 : decode cX8_wakes 22 = .ok (.invokevirtual 176, 3) := by decide +kernel
theorem dX8_wakes_25 : decode cX8_wakes 25 = .ok (.aload_n 0, 1) := by decide +kernel
theorem dX8_wakes_26 : decode cX8_wakes 26 = .ok (.getfield 26, 3) := by decide +kernel
theorem dX8_wakes_29 : decode cX8_wakes 29 = .ok (.getfield 228, 3) := by decide +kernel
theorem dX8_wakes_32 : decode cX8_wakes 32 = .ok (.iload_n 2, 1) := by decide +kernel
theorem dX8_wakes_33 : decode cX8_wakes 33 = .ok (.iaload, 1) := by decide +kernel
theorem dX8_wakes_34 : decode cX8_wakes 34 = .ok (.invokestatic 214, 3) := by decide +kernel
theorem dX8_wakes_37 : decode cX8_wakes 37 = .ok (.ireturn, 1) := by decide +kernel
theorem dX8_free_0 : decode cX8_free 0 = .ok (.iload_n 1, 1) := by decide +kernel
theorem dX8_free_1 : decode cX8_free 1 = .ok (.invokestatic 153, 3) := by decide +kernel
theorem dX8_free_4 : decode cX8_free 4 = .ok (.ifCond .eq 12, 3) := by decide +kernel
theorem dX8_free_7 : decode cX8_free 7 = .ok (.iload_n 2, 1) := by decide +kernel
theorem dX8_free_8 : decode cX8_free 8 = .ok (.iconst 0, 1) := by decide +kernel
theorem dX8_free_9 : decode cX8_free 9 = .ok (.iconst 5, 1) := by decide +kernel
theorem dX8_free_10 : decode cX8_free 10 = .ok (.invokestatic 54, 3) := by decide +kernel
theorem dX8_free_13 : decode cX8_free 13 = .ok (.ifCond .ne 5, 3) := by decide +kernel
theorem dX8_free_16 : decode cX8_free 16 = .ok (.iconst (-1), 1) := by decide +kernel
theorem dX8_free_17 : decode cX8_free 17 = .ok (.ireturn, 1) := by decide +kernel
theorem dX8_free_18 : decode cX8_free 18 = .ok (.aload_n 0, 1) := by decide +kernel
theorem dX8_free_19 : decode cX8_free 19 = .ok (.iload_n 1, 1) := by decide +kernel
theorem dX8_free_20 : decode cX8_free 20 = .ok (.sipush 299, 3) := by decide +kernel
theorem dX8_free_23 : decode cX8_free 23 = .ok (.invokevirtual 176, 3) := by decide +kernel
theorem dX8_free_26 : decode cX8_free 26 = .ok (.bipush (-2), 2) := by decide +kernel
theorem dX8_free_28 : decode cX8_free 28 = .ok (.istore_n 3, 1) := by decide +kernel
theorem dX8_free_29 : decode cX8_free 29 = .ok (.iconst 0, 1) := by decide +kernel
theorem dX8_free_30 : decode cX8_free 30 = .ok (.istore 4, 2) := by decide +kernel
theorem dX8_free_32 : decode cX8_free 32 = .ok (.iload 4, 2) := by decide +kernel
theorem dX8_free_34 : decode cX8_free 34 = .ok (.aload_n 0, 1) := by decide +kernel
theorem dX8_free_35 : decode cX8_free 35 = .ok (.getfield 10, 3) := by decide +kernel
theorem dX8_free_38 : decode cX8_free 38 = .ok (.getfield 62, 3) := by decide +kernel
theorem dX8_free_41 : decode cX8_free 41 = .ok (.if_icmp .ge 60, 3) := by decide +kernel
theorem dX8_free_44 : decode cX8_free 44 = .ok (.aload_n 0, 1) := by decide +kernel
theorem dX8_free_45 : decode cX8_free 45 = .ok (.getfield 10, 3) := by decide +kernel
theorem dX8_free_48 : decode cX8_free 48 = .ok (.getfield 66, 3) := by decide +kernel
theorem dX8_free_51 : decode cX8_free 51 = .ok (.iload 4, 2) := by decide +kernel
theorem dX8_free_53 : decode cX8_free 53 = .ok (.aaload, 1) := by decide +kernel
theorem dX8_free_54 : decode cX8_free 54 = .ok (.getfield 86, 3) := by decide +kernel
theorem dX8_free_57 : decode cX8_free 57 = .ok (.iconst 1, 1) := by decide +kernel
theorem dX8_free_58 : decode cX8_free 58 = .ok (.iaload, 1) := by decide +kernel
theorem dX8_free_59 : decode cX8_free 59 = .ok (.iload_n 2, 1) := by decide +kernel
theorem dX8_free_60 : decode cX8_free 60 = .ok (.if_icmp .ne 35, 3) := by decide +kernel
theorem dX8_free_63 : decode cX8_free 63 = .ok (.aload_n 0, 1) := by decide +kernel
theorem dX8_free_64 : decode cX8_free 64 = .ok (.getfield 26, 3) := by decide +kernel
theorem dX8_free_67 : decode cX8_free 67 = .ok (.getfield 211, 3) := by decide +kernel
theorem dX8_free_70 : decode cX8_free 70 = .ok (.iload 4, 2) := by decide +kernel
theorem dX8_free_72 : decode cX8_free 72 = .ok (.iaload, 1) := by decide +kernel
theorem dX8_free_73 : decode cX8_free 73 = .ok (.iconst (-1), 1) := by decide +kernel
theorem dX8_free_74 : decode cX8_free 74 = .ok (.if_icmp .ne 6, 3) := by decide +kernel
theorem dX8_free_77 : decode cX8_free 77 = .ok (.bipush (-4), 2) := by decide +kernel
theorem dX8_free_79 : decode cX8_free 79 = .ok (.ireturn, 1) := by decide +kernel
theorem dX8_free_80 : decode cX8_free 80 = .ok (.iload_n 3, 1) := by decide +kernel
theorem dX8_free_81 : decode cX8_free 81 = .ok (.aload_n 0, 1) := by decide +kernel
theorem dX8_free_82 : decode cX8_free 82 = .ok (.getfield 26, 3) := by decide +kernel
theorem dX8_free_85 : decode cX8_free 85 = .ok (.getfield 211, 3) := by decide +kernel
theorem dX8_free_88 : decode cX8_free 88 = .ok (.iload 4, 2) := by decide +kernel
theorem dX8_free_90 : decode cX8_free 90 = .ok (.iaload, 1) := by decide +kernel
theorem dX8_free_91 : decode cX8_free 91 = .ok (.invokestatic 231, 3) := by decide +kernel
theorem dX8_free_94 : decode cX8_free 94 = .ok (.istore_n 3, 1) := by decide +kernel
theorem dX8_free_95 : decode cX8_free 95 = .ok (.iinc 4 1, 3) := by decide +kernel
theorem dX8_free_98 : decode cX8_free 98 = .ok (.goto (-66), 3) := by decide +kernel
theorem dX8_free_101 : decode cX8_free 101 = .ok (.iload_n 3, 1) := by decide +kernel
theorem dX8_free_102 : decode cX8_free 102 = .ok (.ireturn, 1) := by decide +kernel
theorem dX8_rank_0 : decode cX8_rank 0 = .ok (.iload_n 1, 1) := by decide +kernel
theorem dX8_rank_1 : decode cX8_rank 1 = .ok (.invokestatic 153, 3) := by decide +kernel
theorem dX8_rank_4 : decode cX8_rank 4 = .ok (.ifCond .eq 14, 3) := by decide +kernel
theorem dX8_rank_7 : decode cX8_rank 7 = .ok (.iload_n 2, 1) := by decide +kernel
theorem dX8_rank_8 : decode cX8_rank 8 = .ok (.invokestatic 58, 3) := by decide +kernel
theorem dX8_rank_11 : decode cX8_rank 11 = .ok (.ifCond .eq 7, 3) := by decide +kernel
theorem dX8_rank_14 : decode cX8_rank 14 = .ok (.iload_n 3, 1) := by decide +kernel
theorem dX8_rank_15 : decode cX8_rank 15 = .ok (.ifCond .ge 5, 3) := by decide +kernel
theorem dX8_rank_18 : decode cX8_rank 18 = .ok (.iconst (-1), 1) := by decide +kernel
theorem dX8_rank_19 : decode cX8_rank 19 = .ok (.ireturn, 1) := by decide +kernel
theorem dX8_rank_20 : decode cX8_rank 20 = .ok (.aload_n 0, 1) := by decide +kernel
theorem dX8_rank_21 : decode cX8_rank 21 = .ok (.iload_n 1, 1) := by decide +kernel
theorem dX8_rank_22 : decode cX8_rank 22 = .ok (.iload_n 2, 1) := by decide +kernel
theorem dX8_rank_23 : decode cX8_rank 23 = .ok (.invokevirtual 176, 3) := by decide +kernel
theorem dX8_rank_26 : decode cX8_rank 26 = .ok (.aload_n 0, 1) := by decide +kernel
theorem dX8_rank_27 : decode cX8_rank 27 = .ok (.getfield 26, 3) := by decide +kernel
theorem dX8_rank_30 : decode cX8_rank 30 = .ok (.invokevirtual 221, 3) := by decide +kernel
theorem dX8_rank_33 : decode cX8_rank 33 = .ok (.aload_n 0, 1) := by decide +kernel
theorem dX8_rank_34 : decode cX8_rank 34 = .ok (.getfield 26, 3) := by decide +kernel
theorem dX8_rank_37 : decode cX8_rank 37 = .ok (.invokevirtual 236, 3) := by decide +kernel
theorem dX8_rank_40 : decode cX8_rank 40 = .ok (.istore 4, 2) := by decide +kernel
theorem dX8_rank_42 : decode cX8_rank 42 = .ok (.iload_n 3, 1) := by decide +kernel
theorem dX8_rank_43 : decode cX8_rank 43 = .ok (.iload 4, 2) := by decide +kernel
theorem dX8_rank_45 : decode cX8_rank 45 = .ok (.if_icmp .ge 21, 3) := by decide +kernel
theorem dX8_rank_48 : decode cX8_rank 48 = .ok (.iload_n 3, 1) := by decide +kernel
theorem dX8_rank_49 : decode cX8_rank 49 = .ok (.bipush 8, 2) := by decide +kernel
theorem dX8_rank_51 : decode cX8_rank 51 = .ok (.if_icmp .ge 15, 3) := by decide +kernel
theorem dX8_rank_54 : decode cX8_rank 54 = .ok (.aload_n 0, 1) := by decide +kernel
theorem dX8_rank_55 : decode cX8_rank 55 = .ok (.getfield 26, 3) := by decide +kernel
theorem dX8_rank_58 : decode cX8_rank 58 = .ok (.getfield 239, 3) := by decide +kernel
theorem dX8_rank_61 : decode cX8_rank 61 = .ok (.iload_n 3, 1) := by decide +kernel
theorem dX8_rank_62 : decode cX8_rank 62 = .ok (.iaload, 1) := by decide +kernel
theorem dX8_rank_63 : decode cX8_rank 63 = .ok (.goto 5, 3) := by decide +kernel
theorem dX8_rank_66 : decode cX8_rank 66 = .ok (.bipush (-4), 2) := by decide +kernel
theorem dX8_rank_68 : decode cX8_rank 68 = .ok (.ireturn, 1) := by decide +kernel
theorem dX8_best_0 : decode cX8_best 0 = .ok (.iload_n 1, 1) := by decide +kernel
theorem dX8_best_1 : decode cX8_best 1 = .ok (.invokestatic 153, 3) := by decide +kernel
theorem dX8_best_4 : decode cX8_best 4 = .ok (.ifCond .eq 31, 3) := by decide +kernel
theorem dX8_best_7 : decode cX8_best 7 = .ok (.iload_n 2, 1) := by decide +kernel
theorem dX8_best_8 : decode cX8_best 8 = .ok (.iconst 1, 1) := by decide +kernel
theorem dX8_best_9 : decode cX8_best 9 = .ok (.iconst 3, 1) := by decide +kernel
theorem dX8_best_10 : decode cX8_best 10 = .ok (.invokestatic 54, 3) := by decide +kernel
theorem dX8_best_13 : decode cX8_best 13 = .ok (.ifCond .eq 22, 3) := by decide +kernel
theorem dX8_best_16 : decode cX8_best 16 = .ok (.iload_n 3, 1) := by decide +kernel
theorem dX8_best_17 : decode cX8_best 17 = .ok (.invokestatic 58, 3) := by decide +kernel
theorem dX8_best_20 : decode cX8_best 20 = .ok (.ifCond .eq 15, 3) := by decide +kernel
theorem dX8_best_23 : decode cX8_best 23 = .ok (.iload 4, 2) := by decide +kernel
theorem dX8_best_25 : decode cX8_best 25 = .ok (.iconst 0, 1) := by decide +kernel
theorem dX8_best_26 : decode cX8_best 26 = .ok (.iload_n 2, 1) := by decide +kernel
theorem dX8_best_27 : decode cX8_best 27 = .ok (.iconst 1, 1) := by decide +kernel
theorem dX8_best_28 : decode cX8_best 28 = .ok (.isub, 1) := by decide +kernel
theorem dX8_best_29 : decode cX8_best 29 = .ok (.invokestatic 54, 3) := by decide +kernel
theorem dX8_best_32 : decode cX8_best 32 = .ok (.ifCond .ne 6, 3) := by decide +kernel
theorem dX8_best_35 : decode cX8_best 35 = .ok (.bipush (-101), 2) := by decide +kernel
theorem dX8_best_37 : decode cX8_best 37 = .ok (.ireturn, 1) := by decide +kernel
theorem dX8_best_38 : decode cX8_best 38 = .ok (.iload_n 2, 1) := by decide +kernel
theorem dX8_best_39 : decode cX8_best 39 = .ok (.aload_n 0, 1) := by decide +kernel
theorem dX8_best_40 : decode cX8_best 40 = .ok (.getfield 10, 3) := by decide +kernel
theorem dX8_best_43 : decode cX8_best 43 = .ok (.getfield 93, 3) := by decide +kernel
theorem dX8_best_46 : decode cX8_best 46 = .ok (.if_icmp .le 6, 3) := by decide +kernel
theorem dX8_best_49 : decode cX8_best 49 = .ok (.bipush (-102), 2) := by decide +kernel
theorem dX8_best_51 : decode cX8_best 51 = .ok (.ireturn, 1) := by decide +kernel
theorem dX8_best_52 : decode cX8_best 52 = .ok (.aload_n 0, 1) := by decide +kernel
theorem dX8_best_53 : decode cX8_best 53 = .ok (.getfield 36, 3) := by decide +kernel
theorem dX8_best_56 : decode cX8_best 56 = .ok (.aload_n 0, 1) := by decide +kernel
theorem dX8_best_57 : decode cX8_best 57 = .ok (.getfield 10, 3) := by decide +kernel
theorem dX8_best_60 : decode cX8_best 60 = .ok (.iload_n 1, 1) := by decide +kernel
theorem dX8_best_61 : decode cX8_best 61 = .ok (.iload_n 2, 1) := by decide +kernel
theorem dX8_best_62 : decode cX8_best 62 = .ok (.iload_n 3, 1) := by decide +kernel
theorem dX8_best_63 : decode cX8_best 63 = .ok (.invokevirtual 242, 3) := by decide +kernel
theorem dX8_best_66 : decode cX8_best 66 = .ok (.aload_n 0, 1) := by decide +kernel
theorem dX8_best_67 : decode cX8_best 67 = .ok (.getfield 36, 3) := by decide +kernel
theorem dX8_best_70 : decode cX8_best 70 = .ok (.getfield 246, 3) := by decide +kernel
theorem dX8_best_73 : decode cX8_best 73 = .ok (.iload 4, 2) := by decide +kernel
theorem dX8_best_75 : decode cX8_best 75 = .ok (.iaload, 1) := by decide +kernel
theorem dX8_best_76 : decode cX8_best 76 = .ok (.ireturn, 1) := by decide +kernel
theorem dX8_least_0 : decode cX8_least 0 = .ok (.iload_n 1, 1) := by decide +kernel
theorem dX8_least_1 : decode cX8_least 1 = .ok (.invokestatic 153, 3) := by decide +kernel
theorem dX8_least_4 : decode cX8_least 4 = .ok (.ifCond .eq 19, 3) := by decide +kernel
theorem dX8_least_7 : decode cX8_least 7 = .ok (.iload_n 2, 1) := by decide +kernel
theorem dX8_least_8 : decode cX8_least 8 = .ok (.iconst 1, 1) := by decide +kernel
theorem dX8_least_9 : decode cX8_least 9 = .ok (.iconst 3, 1) := by decide +kernel
theorem dX8_least_10 : decode cX8_least 10 = .ok (.invokestatic 54, 3) := by decide +kernel
theorem dX8_least_13 : decode cX8_least 13 = .ok (.ifCond .eq 10, 3) := by decide +kernel
theorem dX8_least_16 : decode cX8_least 16 = .ok (.iload_n 3, 1) := by decide +kernel
theorem dX8_least_17 : decode cX8_least 17 = .ok (.invokestatic 58, 3) := by decide +kernel
theorem dX8_least_20 : decode cX8_least 20 = .ok (.ifCond .ne 7, 3) := by decide +kernel
theorem dX8_least_23 : decode cX8_least 23 = .ok (.ldc2_w 174, 3) := by decide +kernel
theorem dX8_least_26 : decode cX8_least 26 = .ok (.lreturn, 1) := by decide +kernel
theorem dX8_least_27 : decode cX8_least 27 = .ok (.iload_n 2, 1) := by decide +kernel
theorem dX8_least_28 : decode cX8_least 28 = .ok (.aload_n 0, 1) := by decide +kernel
theorem dX8_least_29 : decode cX8_least 29 = .ok (.getfield 10, 3) := by decide +kernel
theorem dX8_least_32 : decode cX8_least 32 = .ok (.getfield 93, 3) := by decide +kernel
theorem dX8_least_35 : decode cX8_least 35 = .ok (.if_icmp .le 7, 3) := by decide +kernel
theorem dX8_least_38 : decode cX8_least 38 = .ok (.ldc2_w 249, 3) := by decide +kernel
theorem dX8_least_41 : decode cX8_least 41 = .ok (.lreturn, 1) := by decide +kernel
theorem dX8_least_42 : decode cX8_least 42 = .ok (.aload_n 0, 1) := by decide +kernel
theorem dX8_least_43 : decode cX8_least 43 = .ok (.getfield 36, 3) := by decide +kernel
theorem dX8_least_46 : decode cX8_least 46 = .ok (.aload_n 0, 1) := by decide +kernel
theorem dX8_least_47 : decode cX8_least 47 = .ok (.getfield 10, 3) := by decide +kernel
theorem dX8_least_50 : decode cX8_least 50 = .ok (.iload_n 1, 1) := by decide +kernel
theorem dX8_least_51 : decode cX8_least 51 = .ok (.iload_n 2, 1) := by decide +kernel
theorem dX8_least_52 : decode cX8_least 52 = .ok (.iload_n 3, 1) := by decide +kernel
theorem dX8_least_53 : decode cX8_least 53 = .ok (.invokevirtual 242, 3) := by decide +kernel
theorem dX8_least_56 : decode cX8_least 56 = .ok (.aload_n 0, 1) := by decide +kernel
theorem dX8_least_57 : decode cX8_least 57 = .ok (.getfield 36, 3) := by decide +kernel
theorem dX8_least_60 : decode cX8_least 60 = .ok (.getfield 251, 3) := by decide +kernel
theorem dX8_least_63 : decode cX8_least 63 = .ok (.lreturn, 1) := by decide +kernel
theorem dX8_answer_0 : decode cX8_answer 0 = .ok (.iload_n 1, 1) := by decide +kernel
theorem dX8_answer_1 : decode cX8_answer 1 = .ok (.invokestatic 153, 3) := by decide +kernel
theorem dX8_answer_4 : decode cX8_answer 4 = .ok (.ifCond .eq 18, 3) := by decide +kernel
theorem dX8_answer_7 : decode cX8_answer 7 = .ok (.aload_n 0, 1) := by decide +kernel
theorem dX8_answer_8 : decode cX8_answer 8 = .ok (.iload_n 2, 1) := by decide +kernel
theorem dX8_answer_9 : decode cX8_answer 9 = .ok (.invokevirtual 113, 3) := by decide +kernel
theorem dX8_answer_12 : decode cX8_answer 12 = .ok (.ifCond .eq 10, 3) := by decide +kernel
theorem dX8_answer_15 : decode cX8_answer 15 = .ok (.iload_n 3, 1) := by decide +kernel
theorem dX8_answer_16 : decode cX8_answer 16 = .ok (.invokestatic 58, 3) := by decide +kernel
theorem dX8_answer_19 : decode cX8_answer 19 = .ok (.ifCond .ne 6, 3) := by decide +kernel
theorem dX8_answer_22 : decode cX8_answer 22 = .ok (.bipush (-101), 2) := by decide +kernel
theorem dX8_answer_24 : decode cX8_answer 24 = .ok (.ireturn, 1) := by decide +kernel
theorem dX8_answer_25 : decode cX8_answer 25 = .ok (.ldc2_w 174, 3) := by decide +kernel
theorem dX8_answer_28 : decode cX8_answer 28 = .ok (.lstore 4, 2) := by decide +kernel
theorem dX8_answer_30 : decode cX8_answer 30 = .ok (.iconst (-1), 1) := by decide +kernel
theorem dX8_answer_31 : decode cX8_answer 31 = .ok (.istore 6, 2) := by decide +kernel
theorem dX8_answer_33 : decode cX8_answer 33 = .ok (.iconst (-1), 1) := by decide +kernel
theorem dX8_answer_34 : decode cX8_answer 34 = .ok (.istore 7, 2) := by decide +kernel
theorem dX8_answer_36 : decode cX8_answer 36 = .ok (.iload 7, 2) := by decide +kernel
theorem dX8_answer_38 : decode cX8_answer 38 = .ok (.aload_n 0, 1) := by decide +kernel
theorem dX8_answer_39 : decode cX8_answer 39 = .ok (.getfield 10, 3) := by decide +kernel
theorem dX8_answer_42 : decode cX8_answer 42 = .ok (.getfield 62, 3) := by decide +kernel
theorem dX8_answer_45 : decode cX8_answer 45 = .ok (.if_icmp .ge 71, 3) := by decide +kernel
theorem dX8_answer_48 : decode cX8_answer 48 = .ok (.aload_n 0, 1) := by decide +kernel
theorem dX8_answer_49 : decode cX8_answer 49 = .ok (.getfield 26, 3) := by decide +kernel
theorem dX8_answer_52 : decode cX8_answer 52 = .ok (.aload_n 0, 1) := by decide +kernel
theorem dX8_answer_53 : decode cX8_answer 53 = .ok (.getfield 10, 3) := by decide +kernel
theorem dX8_answer_56 : decode cX8_answer 56 = .ok (.iload_n 1, 1) := by decide +kernel
theorem dX8_answer_57 : decode cX8_answer 57 = .ok (.invokevirtual 193, 3) := by decide +kernel
theorem dX8_answer_60 : decode cX8_answer 60 = .ok (.aload_n 0, 1) := by decide +kernel
theorem dX8_answer_61 : decode cX8_answer 61 = .ok (.getfield 26, 3) := by decide +kernel
theorem dX8_answer_64 : decode cX8_answer 64 = .ok (.getfield 254, 3) := by decide +kernel
theorem dX8_answer_67 : decode cX8_answer 67 = .ok (.getfield 119, 3) := by decide +kernel
theorem dX8_answer_70 : decode cX8_answer 70 = .ok (.iload_n 2, 1) := by decide +kernel
theorem dX8_answer_71 : decode cX8_answer 71 = .ok (.aaload, 1) := by decide +kernel
theorem dX8_answer_72 : decode cX8_answer 72 = .ok (.iload 7, 2) := by decide +kernel
theorem dX8_answer_74 : decode cX8_answer 74 = .ok (.putfield 128, 3) := by decide +kernel
theorem dX8_answer_77 : decode cX8_answer 77 = .ok (.aload_n 0, 1) := by decide +kernel
theorem dX8_answer_78 : decode cX8_answer 78 = .ok (.getfield 26, 3) := by decide +kernel
theorem dX8_answer_81 : decode cX8_answer 81 = .ok (.iload_n 3, 1) := by decide +kernel
theorem dX8_answer_82 : decode cX8_answer 82 = .ok (.invokevirtual 255, 3) := by decide +kernel
theorem dX8_answer_85 : decode cX8_answer 85 = .ok (.aload_n 0, 1) := by decide +kernel
theorem dX8_answer_86 : decode cX8_answer 86 = .ok (.getfield 26, 3) := by decide +kernel
theorem dX8_answer_89 : decode cX8_answer 89 = .ok (.invokevirtual 189, 3) := by decide +kernel
theorem dX8_answer_92 : decode cX8_answer 92 = .ok (.lstore 8, 2) := by decide +kernel
theorem dX8_answer_94 : decode cX8_answer 94 = .ok (.lload 8, 2) := by decide +kernel
theorem dX8_answer_96 : decode cX8_answer 96 = .ok (.lload 4, 2) := by decide +kernel
theorem dX8_answer_98 : decode cX8_answer 98 = .ok (.lcmp, 1) := by decide +kernel
theorem dX8_answer_99 : decode cX8_answer 99 = .ok (.ifCond .le 11, 3) := by decide +kernel
theorem dX8_answer_102 : decode cX8_answer 102 = .ok (.lload 8, 2) := by decide +kernel
theorem dX8_answer_104 : decode cX8_answer 104 = .ok (.lstore 4, 2) := by decide +kernel
theorem dX8_answer_106 : decode cX8_answer 106 = .ok (.iload 7, 2) := by decide +kernel
theorem dX8_answer_108 : decode cX8_answer 108 = .ok (.istore 6, 2) := by decide +kernel
theorem dX8_answer_110 : decode cX8_answer 110 = .ok (.iinc 7 1, 3) := by decide +kernel
theorem dX8_answer_113 : decode cX8_answer 113 = .ok (.goto (-77), 3) := by decide +kernel
theorem dX8_answer_116 : decode cX8_answer 116 = .ok (.iload 6, 2) := by decide +kernel
theorem dX8_answer_118 : decode cX8_answer 118 = .ok (.ireturn, 1) := by decide +kernel
theorem dX8_hangs_0 : decode cX8_hangs 0 = .ok (.iload_n 1, 1) := by decide +kernel
theorem dX8_hangs_1 : decode cX8_hangs 1 = .ok (.invokestatic 153, 3) := by decide +kernel
theorem dX8_hangs_4 : decode cX8_hangs 4 = .ok (.ifCond .eq 50, 3) := by decide +kernel
theorem dX8_hangs_7 : decode cX8_hangs 7 = .ok (.aload_n 0, 1) := by decide +kernel
theorem dX8_hangs_8 : decode cX8_hangs 8 = .ok (.iload_n 2, 1) := by decide +kernel
theorem dX8_hangs_9 : decode cX8_hangs 9 = .ok (.invokevirtual 113, 3) := by decide +kernel
theorem dX8_hangs_12 : decode cX8_hangs 12 = .ok (.ifCond .eq 42, 3) := by decide +kernel
theorem dX8_hangs_15 : decode cX8_hangs 15 = .ok (.iload_n 3, 1) := by decide +kernel
theorem dX8_hangs_16 : decode cX8_hangs 16 = .ok (.invokestatic 58, 3) := by decide +kernel
theorem dX8_hangs_19 : decode cX8_hangs 19 = .ok (.ifCond .eq 35, 3) := by decide +kernel
theorem dX8_hangs_22 : decode cX8_hangs 22 = .ok (.iload 4, 2) := by decide +kernel
theorem dX8_hangs_24 : decode cX8_hangs 24 = .ok (.invokestatic 58, 3) := by decide +kernel
theorem dX8_hangs_27 : decode cX8_hangs 27 = .ok (.ifCond .eq 27, 3) := by decide +kernel
theorem dX8_hangs_30 : decode cX8_hangs 30 = .ok (.iload 5, 2) := by decide +kernel
theorem dX8_hangs_32 : decode cX8_hangs 32 = .ok (.invokestatic 58, 3) := by decide +kernel
theorem dX8_hangs_35 : decode cX8_hangs 35 = .ok (.ifCond .eq 19, 3) := by decide +kernel
theorem dX8_hangs_38 : decode cX8_hangs 38 = .ok (.iload 6, 2) := by decide +kernel
theorem dX8_hangs_40 : decode cX8_hangs 40 = .ok (.iconst 0, 1) := by decide +kernel
theorem dX8_hangs_41 : decode cX8_hangs 41 = .ok (.iconst 1, 1) := by decide +kernel
theorem dX8_hangs_42 : decode cX8_hangs 42 = .ok (.invokestatic 54, 3) := by decide +kernel
theorem dX8_hangs_45 : decode cX8_hangs 45 = .ok (.ifCond .eq 9, 3) := by decide +kernel
theorem dX8_hangs_48 : decode cX8_hangs 48 = .ok (.iload_n 3, 1) := by decide +kernel
theorem dX8_hangs_49 : decode cX8_hangs 49 = .ok (.iload 4, 2) := by decide +kernel
theorem dX8_hangs_51 : decode cX8_hangs 51 = .ok (.if_icmp .le 7, 3) := by decide +kernel
theorem dX8_hangs_54 : decode cX8_hangs 54 = .ok (.ldc2_w 174, 3) := by decide +kernel
theorem dX8_hangs_57 : decode cX8_hangs 57 = .ok (.lreturn, 1) := by decide +kernel
theorem dX8_hangs_58 : decode cX8_hangs 58 = .ok (.iload 4, 2) := by decide +kernel
theorem dX8_hangs_60 : decode cX8_hangs 60 = .ok (.iload_n 3, 1) := by decide +kernel
theorem dX8_hangs_61 : decode cX8_hangs 61 = .ok (.iload 5, 2) := by decide +kernel
theorem dX8_hangs_63 : decode cX8_hangs 63 = .ok (.iconst 1, 1) := by decide +kernel
theorem dX8_hangs_64 : decode cX8_hangs 64 = .ok (.iadd, 1) := by decide +kernel
theorem dX8_hangs_65 : decode cX8_hangs 65 = .ok (.invokestatic 231, 3) := by decide +kernel
theorem dX8_hangs_68 : decode cX8_hangs 68 = .ok (.invokestatic 257, 3) := by decide +kernel
theorem dX8_hangs_71 : decode cX8_hangs 71 = .ok (.istore 7, 2) := by decide +kernel
theorem dX8_hangs_73 : decode cX8_hangs 73 = .ok (.lconst 0, 1) := by decide +kernel
theorem dX8_hangs_74 : decode cX8_hangs 74 = .ok (.lstore 8, 2) := by decide +kernel
theorem dX8_hangs_76 : decode cX8_hangs 76 = .ok (.iload_n 3, 1) := by decide +kernel
theorem dX8_hangs_77 : decode cX8_hangs 77 = .ok (.istore 10, 2) := by decide +kernel
theorem dX8_hangs_79 : decode cX8_hangs 79 = .ok (.iload 10, 2) := by decide +kernel
theorem dX8_hangs_81 : decode cX8_hangs 81 = .ok (.iload 7, 2) := by decide +kernel
theorem dX8_hangs_83 : decode cX8_hangs 83 = .ok (.if_icmp .gt 93, 3) := by decide +kernel
theorem dX8_hangs_86 : decode cX8_hangs 86 = .ok (.aload_n 0, 1) := by decide +kernel
theorem dX8_hangs_87 : decode cX8_hangs 87 = .ok (.getfield 26, 3) := by decide +kernel
theorem dX8_hangs_90 : decode cX8_hangs 90 = .ok (.aload_n 0, 1) := by decide +kernel
theorem dX8_hangs_91 : decode cX8_hangs 91 = .ok (.getfield 10, 3) := by decide +kernel
theorem dX8_hangs_94 : decode cX8_hangs 94 = .ok (.iload_n 1, 1) := by decide +kernel
theorem dX8_hangs_95 : decode cX8_hangs 95 = .ok (.invokevirtual 193, 3) := by decide +kernel
theorem dX8_hangs_98 : decode cX8_hangs 98 = .ok (.aload_n 0, 1) := by decide +kernel
theorem dX8_hangs_99 : decode cX8_hangs 99 = .ok (.getfield 26, 3) := by decide +kernel
theorem dX8_hangs_102 : decode cX8_hangs 102 = .ok (.getfield 254, 3) := by decide +kernel
theorem dX8_hangs_105 : decode cX8_hangs 105 = .ok (.getfield 119, 3) := by decide +kernel
theorem dX8_hangs_108 : decode cX8_hangs 108 = .ok (.iload_n 2, 1) := by decide +kernel
theorem dX8_hangs_109 : decode cX8_hangs 109 = .ok (.aaload, 1) := by decide +kernel
theorem dX8_hangs_110 : decode cX8_hangs 110 = .ok (.iload 10, 2) := by decide +kernel
theorem dX8_hangs_112 : decode cX8_hangs 112 = .ok (.putfield 131, 3) := by decide +kernel
theorem dX8_hangs_115 : decode cX8_hangs 115 = .ok (.aload_n 0, 1) := by decide +kernel
theorem dX8_hangs_116 : decode cX8_hangs 116 = .ok (.getfield 26, 3) := by decide +kernel
theorem dX8_hangs_119 : decode cX8_hangs 119 = .ok (.iload 5, 2) := by decide +kernel
theorem dX8_hangs_121 : decode cX8_hangs 121 = .ok (.invokevirtual 255, 3) := by decide +kernel
theorem dX8_hangs_124 : decode cX8_hangs 124 = .ok (.aload_n 0, 1) := by decide +kernel
theorem dX8_hangs_125 : decode cX8_hangs 125 = .ok (.getfield 26, 3) := by decide +kernel
theorem dX8_hangs_128 : decode cX8_hangs 128 = .ok (.invokevirtual 189, 3) := by decide +kernel
theorem dX8_hangs_131 : decode cX8_hangs 131 = .ok (.lstore 11, 2) := by decide +kernel
theorem dX8_hangs_133 : decode cX8_hangs 133 = .ok (.iload 10, 2) := by decide +kernel
theorem dX8_hangs_135 : decode cX8_hangs 135 = .ok (.iload_n 3, 1) := by decide +kernel
theorem dX8_hangs_136 : decode cX8_hangs 136 = .ok (.if_icmp .ne 10, 3) := by decide +kernel
theorem dX8_hangs_139 : decode cX8_hangs 139 = .ok (.lload 11, 2) := by decide +kernel
theorem dX8_hangs_141 : decode cX8_hangs 141 = .ok (.lstore 8, 2) := by decide +kernel
theorem dX8_hangs_143 : decode cX8_hangs 143 = .ok (.goto 27, 3) := by decide +kernel
theorem dX8_hangs_146 : decode cX8_hangs 146 = .ok (.iload 6, 2) := by decide +kernel
theorem dX8_hangs_148 : decode cX8_hangs 148 = .ok (.ifCond .ne 13, 3) := by decide +kernel
theorem dX8_hangs_151 : decode cX8_hangs 151 = .ok (.lload 8, 2) := by decide +kernel
theorem dX8_hangs_153 : decode cX8_hangs 153 = .ok (.lload 11, 2) := by decide +kernel
theorem dX8_hangs_155 : decode cX8_hangs 155 = .ok (.invokestatic 260, 3) := by decide +kernel
theorem dX8_hangs_158 : decode cX8_hangs 158 = .ok (.goto 10, 3) := by decide +kernel
theorem dX8_hangs_161 : decode cX8_hangs 161 = .ok (.lload 8, 2) := by decide +kernel
theorem dX8_hangs_163 : decode cX8_hangs 163 = .ok (.lload 11, 2) := by decide +kernel
theorem dX8_hangs_165 : decode cX8_hangs 165 = .ok (.invokestatic 263, 3) := by decide +kernel
theorem dX8_hangs_168 : decode cX8_hangs 168 = .ok (.lstore 8, 2) := by decide +kernel
theorem dX8_hangs_170 : decode cX8_hangs 170 = .ok (.iinc 10 1, 3) := by decide +kernel
theorem dX8_hangs_173 : decode cX8_hangs 173 = .ok (.goto (-94), 3) := by decide +kernel
theorem dX8_hangs_176 : decode cX8_hangs 176 = .ok (.lload 8, 2) := by decide +kernel
theorem dX8_hangs_178 : decode cX8_hangs 178 = .ok (.lreturn, 1) := by decide +kernel
theorem dX8_plan_0 : decode cX8_plan 0 = .ok (.iload_n 1, 1) := by decide +kernel
theorem dX8_plan_1 : decode cX8_plan 1 = .ok (.invokestatic 153, 3) := by decide +kernel
theorem dX8_plan_4 : decode cX8_plan 4 = .ok (.ifCond .eq 32, 3) := by decide +kernel
theorem dX8_plan_7 : decode cX8_plan 7 = .ok (.iload_n 3, 1) := by decide +kernel
theorem dX8_plan_8 : decode cX8_plan 8 = .ok (.iload_n 2, 1) := by decide +kernel
theorem dX8_plan_9 : decode cX8_plan 9 = .ok (.invokestatic 89, 3) := by decide +kernel
theorem dX8_plan_12 : decode cX8_plan 12 = .ok (.ifCond .eq 24, 3) := by decide +kernel
theorem dX8_plan_15 : decode cX8_plan 15 = .ok (.iload 4, 2) := by decide +kernel
theorem dX8_plan_17 : decode cX8_plan 17 = .ok (.iconst 1, 1) := by decide +kernel
theorem dX8_plan_18 : decode cX8_plan 18 = .ok (.bipush 60, 2) := by decide +kernel
theorem dX8_plan_20 : decode cX8_plan 20 = .ok (.invokestatic 54, 3) := by decide +kernel
theorem dX8_plan_23 : decode cX8_plan 23 = .ok (.ifCond .eq 13, 3) := by decide +kernel
theorem dX8_plan_26 : decode cX8_plan 26 = .ok (.iload 5, 2) := by decide +kernel
theorem dX8_plan_28 : decode cX8_plan 28 = .ok (.iconst 0, 1) := by decide +kernel
theorem dX8_plan_29 : decode cX8_plan 29 = .ok (.iconst 1, 1) := by decide +kernel
theorem dX8_plan_30 : decode cX8_plan 30 = .ok (.invokestatic 54, 3) := by decide +kernel
theorem dX8_plan_33 : decode cX8_plan 33 = .ok (.ifCond .ne 7, 3) := by decide +kernel
theorem dX8_plan_36 : decode cX8_plan 36 = .ok (.ldc2_w 174, 3) := by decide +kernel
theorem dX8_plan_39 : decode cX8_plan 39 = .ok (.lreturn, 1) := by decide +kernel
theorem dX8_plan_40 : decode cX8_plan 40 = .ok (.aload_n 0, 1) := by decide +kernel
theorem dX8_plan_41 : decode cX8_plan 41 = .ok (.getfield 26, 3) := by decide +kernel
theorem dX8_plan_44 : decode cX8_plan 44 = .ok (.aload_n 0, 1) := by decide +kernel
theorem dX8_plan_45 : decode cX8_plan 45 = .ok (.getfield 10, 3) := by decide +kernel
theorem dX8_plan_48 : decode cX8_plan 48 = .ok (.iload_n 1, 1) := by decide +kernel
theorem dX8_plan_49 : decode cX8_plan 49 = .ok (.invokevirtual 193, 3) := by decide +kernel
theorem dX8_plan_52 : decode cX8_plan 52 = .ok (.iload_n 3, 1) := by decide +kernel
theorem dX8_plan_53 : decode cX8_plan 53 = .ok (.istore 6, 2) := by decide +kernel
theorem dX8_plan_55 : decode cX8_plan 55 = .ok (.iload 6, 2) := by decide +kernel
theorem dX8_plan_57 : decode cX8_plan 57 = .ok (.sipush 299, 3) := by decide +kernel
theorem dX8_plan_60 : decode cX8_plan 60 = .ok (.if_icmp .gt 67, 3) := by decide +kernel
theorem dX8_plan_63 : decode cX8_plan 63 = .ok (.aload_n 0, 1) := by decide +kernel
theorem dX8_plan_64 : decode cX8_plan 64 = .ok (.getfield 26, 3) := by decide +kernel
theorem dX8_plan_67 : decode cX8_plan 67 = .ok (.iload 6, 2) := by decide +kernel
theorem dX8_plan_69 : decode cX8_plan 69 = .ok (.invokevirtual 255, 3) := by decide +kernel
theorem dX8_plan_72 : decode cX8_plan 72 = .ok (.aload_n 0, 1) := by decide +kernel
theorem dX8_plan_73 : decode cX8_plan 73 = .ok (.getfield 26, 3) := by decide +kernel
theorem dX8_plan_76 : decode cX8_plan 76 = .ok (.iload_n 2, 1) := by decide +kernel
theorem dX8_plan_77 : decode cX8_plan 77 = .ok (.i2l, 1) := by decide +kernel
theorem dX8_plan_78 : decode cX8_plan 78 = .ok (.ldc2_w 265, 3) := by decide +kernel
theorem dX8_plan_81 : decode cX8_plan 81 = .ok (.lmul, 1) := by decide +kernel
theorem dX8_plan_82 : decode cX8_plan 82 = .ok (.iconst (-1), 1) := by decide +kernel
theorem dX8_plan_83 : decode cX8_plan 83 = .ok (.invokevirtual 267, 3) := by decide +kernel
theorem dX8_plan_86 : decode cX8_plan 86 = .ok (.aload_n 0, 1) := by decide +kernel
theorem dX8_plan_87 : decode cX8_plan 87 = .ok (.getfield 26, 3) := by decide +kernel
theorem dX8_plan_90 : decode cX8_plan 90 = .ok (.invokevirtual 189, 3) := by decide +kernel
theorem dX8_plan_93 : decode cX8_plan 93 = .ok (.lconst 0, 1) := by decide +kernel
theorem dX8_plan_94 : decode cX8_plan 94 = .ok (.lcmp, 1) := by decide +kernel
theorem dX8_plan_95 : decode cX8_plan 95 = .ok (.ifCond .ne 22, 3) := by decide +kernel
theorem dX8_plan_98 : decode cX8_plan 98 = .ok (.iload 5, 2) := by decide +kernel
theorem dX8_plan_100 : decode cX8_plan 100 = .ok (.ifCond .ne 9, 3) := by decide +kernel
theorem dX8_plan_103 : decode cX8_plan 103 = .ok (.iload 6, 2) := by decide +kernel
theorem dX8_plan_105 : decode cX8_plan 105 = .ok (.i2l, 1) := by decide +kernel
theorem dX8_plan_106 : decode cX8_plan 106 = .ok (.goto 10, 3) := by decide +kernel
theorem dX8_plan_109 : decode cX8_plan 109 = .ok (.aload_n 0, 1) := by decide +kernel
theorem dX8_plan_110 : decode cX8_plan 110 = .ok (.getfield 26, 3) := by decide +kernel
theorem dX8_plan_113 : decode cX8_plan 113 = .ok (.getfield 200, 3) := by decide +kernel
theorem dX8_plan_116 : decode cX8_plan 116 = .ok (.lreturn, 1) := by decide +kernel
theorem dX8_plan_117 : decode cX8_plan 117 = .ok (.iload 6, 2) := by decide +kernel
theorem dX8_plan_119 : decode cX8_plan 119 = .ok (.iload 4, 2) := by decide +kernel
theorem dX8_plan_121 : decode cX8_plan 121 = .ok (.iadd, 1) := by decide +kernel
theorem dX8_plan_122 : decode cX8_plan 122 = .ok (.istore 6, 2) := by decide +kernel
theorem dX8_plan_124 : decode cX8_plan 124 = .ok (.goto (-69), 3) := by decide +kernel
theorem dX8_plan_127 : decode cX8_plan 127 = .ok (.ldc2_w 271, 3) := by decide +kernel
theorem dX8_plan_130 : decode cX8_plan 130 = .ok (.lreturn, 1) := by decide +kernel
theorem dX8_parts_0 : decode cX8_parts 0 = .ok (.aload_n 0, 1) := by decide +kernel
theorem dX8_parts_1 : decode cX8_parts 1 = .ok (.getfield 26, 3) := by decide +kernel
theorem dX8_parts_4 : decode cX8_parts 4 = .ok (.aload_n 0, 1) := by decide +kernel
theorem dX8_parts_5 : decode cX8_parts 5 = .ok (.getfield 10, 3) := by decide +kernel
theorem dX8_parts_8 : decode cX8_parts 8 = .ok (.iconst 0, 1) := by decide +kernel
theorem dX8_parts_9 : decode cX8_parts 9 = .ok (.invokevirtual 193, 3) := by decide +kernel
theorem dX8_parts_12 : decode cX8_parts 12 = .ok (.aload_n 0, 1) := by decide +kernel
theorem dX8_parts_13 : decode cX8_parts 13 = .ok (.getfield 30, 3) := by decide +kernel
theorem dX8_parts_16 : decode cX8_parts 16 = .ok (.aload_n 0, 1) := by decide +kernel
theorem dX8_parts_17 : decode cX8_parts 17 = .ok (.getfield 10, 3) := by decide +kernel
theorem dX8_parts_20 : decode cX8_parts 20 = .ok (.iconst 1, 1) := by decide +kernel
theorem dX8_parts_21 : decode cX8_parts 21 = .ok (.invokevirtual 193, 3) := by decide +kernel
theorem dX8_parts_24 : decode cX8_parts 24 = .ok (.iconst 0, 1) := by decide +kernel
theorem dX8_parts_25 : decode cX8_parts 25 = .ok (.istore_n 1, 1) := by decide +kernel
theorem dX8_parts_26 : decode cX8_parts 26 = .ok (.iload_n 1, 1) := by decide +kernel
theorem dX8_parts_27 : decode cX8_parts 27 = .ok (.sipush 299, 3) := by decide +kernel
theorem dX8_parts_30 : decode cX8_parts 30 = .ok (.if_icmp .gt 41, 3) := by decide +kernel
theorem dX8_parts_33 : decode cX8_parts 33 = .ok (.aload_n 0, 1) := by decide +kernel
theorem dX8_parts_34 : decode cX8_parts 34 = .ok (.getfield 26, 3) := by decide +kernel
theorem dX8_parts_37 : decode cX8_parts 37 = .ok (.iload_n 1, 1) := by decide +kernel
theorem dX8_parts_38 : decode cX8_parts 38 = .ok (.invokevirtual 255, 3) := by decide +kernel
theorem dX8_parts_41 : decode cX8_parts 41 = .ok (.aload_n 0, 1) := by decide +kernel
theorem dX8_parts_42 : decode cX8_parts 42 = .ok (.getfield 30, 3) := by decide +kernel
theorem dX8_parts_45 : decode cX8_parts 45 = .ok (.iload_n 1, 1) := by decide +kernel
theorem dX8_parts_46 : decode cX8_parts 46 = .ok (.invokevirtual 255, 3) := by decide +kernel
theorem dX8_parts_49 : decode cX8_parts 49 = .ok (.aload_n 0, 1) := by decide +kernel
theorem dX8_parts_50 : decode cX8_parts 50 = .ok (.getfield 26, 3) := by decide +kernel
theorem dX8_parts_53 : decode cX8_parts 53 = .ok (.aload_n 0, 1) := by decide +kernel
theorem dX8_parts_54 : decode cX8_parts 54 = .ok (.getfield 30, 3) := by decide +kernel
theorem dX8_parts_57 : decode cX8_parts 57 = .ok (.invokevirtual 273, 3) := by decide +kernel
theorem dX8_parts_60 : decode cX8_parts 60 = .ok (.ifCond .ne 5, 3) := by decide +kernel
theorem dX8_parts_63 : decode cX8_parts 63 = .ok (.iload_n 1, 1) := by decide +kernel
theorem dX8_parts_64 : decode cX8_parts 64 = .ok (.ireturn, 1) := by decide +kernel
theorem dX8_parts_65 : decode cX8_parts 65 = .ok (.iinc 1 1, 3) := by decide +kernel
theorem dX8_parts_68 : decode cX8_parts 68 = .ok (.goto (-42), 3) := by decide +kernel
theorem dX8_parts_71 : decode cX8_parts 71 = .ok (.bipush (-4), 2) := by decide +kernel
theorem dX8_parts_73 : decode cX8_parts 73 = .ok (.ireturn, 1) := by decide +kernel
theorem dX8_gap_0 : decode cX8_gap 0 = .ok (.iload_n 1, 1) := by decide +kernel
theorem dX8_gap_1 : decode cX8_gap 1 = .ok (.invokestatic 58, 3) := by decide +kernel
theorem dX8_gap_4 : decode cX8_gap 4 = .ok (.ifCond .ne 7, 3) := by decide +kernel
theorem dX8_gap_7 : decode cX8_gap 7 = .ok (.ldc2_w 277, 3) := by decide +kernel
theorem dX8_gap_10 : decode cX8_gap 10 = .ok (.lreturn, 1) := by decide +kernel
theorem dX8_gap_11 : decode cX8_gap 11 = .ok (.aload_n 0, 1) := by decide +kernel
theorem dX8_gap_12 : decode cX8_gap 12 = .ok (.iconst 1, 1) := by decide +kernel
theorem dX8_gap_13 : decode cX8_gap 13 = .ok (.iload_n 1, 1) := by decide +kernel
theorem dX8_gap_14 : decode cX8_gap 14 = .ok (.invokevirtual 176, 3) := by decide +kernel
theorem dX8_gap_17 : decode cX8_gap 17 = .ok (.aload_n 0, 1) := by decide +kernel
theorem dX8_gap_18 : decode cX8_gap 18 = .ok (.getfield 26, 3) := by decide +kernel
theorem dX8_gap_21 : decode cX8_gap 21 = .ok (.invokevirtual 189, 3) := by decide +kernel
theorem dX8_gap_24 : decode cX8_gap 24 = .ok (.lstore_n 2, 1) := by decide +kernel
theorem dX8_gap_25 : decode cX8_gap 25 = .ok (.aload_n 0, 1) := by decide +kernel
theorem dX8_gap_26 : decode cX8_gap 26 = .ok (.iconst 0, 1) := by decide +kernel
theorem dX8_gap_27 : decode cX8_gap 27 = .ok (.iload_n 1, 1) := by decide +kernel
theorem dX8_gap_28 : decode cX8_gap 28 = .ok (.invokevirtual 176, 3) := by decide +kernel
theorem dX8_gap_31 : decode cX8_gap 31 = .ok (.lload_n 2, 1) := by decide +kernel
theorem dX8_gap_32 : decode cX8_gap 32 = .ok (.aload_n 0, 1) := by decide +kernel
theorem dX8_gap_33 : decode cX8_gap 33 = .ok (.getfield 26, 3) := by decide +kernel
theorem dX8_gap_36 : decode cX8_gap 36 = .ok (.invokevirtual 189, 3) := by decide +kernel
theorem dX8_gap_39 : decode cX8_gap 39 = .ok (.lsub, 1) := by decide +kernel
theorem dX8_gap_40 : decode cX8_gap 40 = .ok (.lreturn, 1) := by decide +kernel
theorem dX8_judge_0 : decode cX8_judge 0 = .ok (.iload_n 1, 1) := by decide +kernel
theorem dX8_judge_1 : decode cX8_judge 1 = .ok (.invokestatic 153, 3) := by decide +kernel
theorem dX8_judge_4 : decode cX8_judge 4 = .ok (.ifCond .eq 25, 3) := by decide +kernel
theorem dX8_judge_7 : decode cX8_judge 7 = .ok (.iload_n 2, 1) := by decide +kernel
theorem dX8_judge_8 : decode cX8_judge 8 = .ok (.invokestatic 58, 3) := by decide +kernel
theorem dX8_judge_11 : decode cX8_judge 11 = .ok (.ifCond .eq 18, 3) := by decide +kernel
theorem dX8_judge_14 : decode cX8_judge 14 = .ok (.iload_n 3, 1) := by decide +kernel
theorem dX8_judge_15 : decode cX8_judge 15 = .ok (.invokestatic 100, 3) := by decide +kernel
theorem dX8_judge_18 : decode cX8_judge 18 = .ok (.ifCond .eq 11, 3) := by decide +kernel
theorem dX8_judge_21 : decode cX8_judge 21 = .ok (.iload 4, 2) := by decide +kernel
theorem dX8_judge_23 : decode cX8_judge 23 = .ok (.invokestatic 103, 3) := by decide +kernel
theorem dX8_judge_26 : decode cX8_judge 26 = .ok (.ifCond .ne 5, 3) := by decide +kernel
theorem dX8_judge_29 : decode cX8_judge 29 = .ok (.iconst (-1), 1) := by decide +kernel
theorem dX8_judge_30 : decode cX8_judge 30 = .ok (.ireturn, 1) := by decide +kernel
theorem dX8_judge_31 : decode cX8_judge 31 = .ok (.aload_n 0, 1) := by decide +kernel
theorem dX8_judge_32 : decode cX8_judge 32 = .ok (.getfield 49, 3) := by decide +kernel
theorem dX8_judge_35 : decode cX8_judge 35 = .ok (.iload_n 3, 1) := by decide +kernel
theorem dX8_judge_36 : decode cX8_judge 36 = .ok (.aaload, 1) := by decide +kernel
theorem dX8_judge_37 : decode cX8_judge 37 = .ok (.iload 4, 2) := by decide +kernel
theorem dX8_judge_39 : decode cX8_judge 39 = .ok (.iload 5, 2) := by decide +kernel
theorem dX8_judge_41 : decode cX8_judge 41 = .ok (.aload_n 0, 1) := by decide +kernel
theorem dX8_judge_42 : decode cX8_judge 42 = .ok (.getfield 10, 3) := by decide +kernel
theorem dX8_judge_45 : decode cX8_judge 45 = .ok (.getfield 62, 3) := by decide +kernel
theorem dX8_judge_48 : decode cX8_judge 48 = .ok (.invokevirtual 106, 3) := by decide +kernel
theorem dX8_judge_51 : decode cX8_judge 51 = .ok (.istore 6, 2) := by decide +kernel
theorem dX8_judge_53 : decode cX8_judge 53 = .ok (.iload 6, 2) := by decide +kernel
theorem dX8_judge_55 : decode cX8_judge 55 = .ok (.ifCond .eq 6, 3) := by decide +kernel
theorem dX8_judge_58 : decode cX8_judge 58 = .ok (.iload 6, 2) := by decide +kernel
theorem dX8_judge_60 : decode cX8_judge 60 = .ok (.ireturn, 1) := by decide +kernel
theorem dX8_judge_61 : decode cX8_judge 61 = .ok (.aload_n 0, 1) := by decide +kernel
theorem dX8_judge_62 : decode cX8_judge 62 = .ok (.iload_n 1, 1) := by decide +kernel
theorem dX8_judge_63 : decode cX8_judge 63 = .ok (.iload_n 2, 1) := by decide +kernel
theorem dX8_judge_64 : decode cX8_judge 64 = .ok (.invokevirtual 176, 3) := by decide +kernel
theorem dX8_judge_67 : decode cX8_judge 67 = .ok (.iconst 0, 1) := by decide +kernel
theorem dX8_judge_68 : decode cX8_judge 68 = .ok (.istore 7, 2) := by decide +kernel
theorem dX8_judge_70 : decode cX8_judge 70 = .ok (.iload 7, 2) := by decide +kernel
theorem dX8_judge_72 : decode cX8_judge 72 = .ok (.aload_n 0, 1) := by decide +kernel
theorem dX8_judge_73 : decode cX8_judge 73 = .ok (.getfield 10, 3) := by decide +kernel
theorem dX8_judge_76 : decode cX8_judge 76 = .ok (.getfield 62, 3) := by decide +kernel
theorem dX8_judge_79 : decode cX8_judge 79 = .ok (.if_icmp .ge 49, 3) := by decide +kernel
theorem dX8_judge_82 : decode cX8_judge 82 = .ok (.aload_n 0, 1) := by decide +kernel
theorem dX8_judge_83 : decode cX8_judge 83 = .ok (.getfield 26, 3) := by decide +kernel
theorem dX8_judge_86 : decode cX8_judge 86 = .ok (.iload 7, 2) := by decide +kernel
theorem dX8_judge_88 : decode cX8_judge 88 = .ok (.invokevirtual 186, 3) := by decide +kernel
theorem dX8_judge_91 : decode cX8_judge 91 = .ok (.ldc2_w 265, 3) := by decide +kernel
theorem dX8_judge_94 : decode cX8_judge 94 = .ok (.ldiv, 1) := by decide +kernel
theorem dX8_judge_95 : decode cX8_judge 95 = .ok (.lstore 8, 2) := by decide +kernel
theorem dX8_judge_97 : decode cX8_judge 97 = .ok (.aload_n 0, 1) := by decide +kernel
theorem dX8_judge_98 : decode cX8_judge 98 = .ok (.getfield 49, 3) := by decide +kernel
theorem dX8_judge_101 : decode cX8_judge 101 = .ok (.iload_n 3, 1) := by decide +kernel
theorem dX8_judge_102 : decode cX8_judge 102 = .ok (.aaload, 1) := by decide +kernel
theorem dX8_judge_103 : decode cX8_judge 103 = .ok (.getfield 110, 3) := by decide +kernel
theorem dX8_judge_106 : decode cX8_judge 106 = .ok (.iload 5, 2) := by decide +kernel
theorem dX8_judge_108 : decode cX8_judge 108 = .ok (.iload 7, 2) := by decide +kernel
theorem dX8_judge_110 : decode cX8_judge 110 = .ok (.iadd, 1) := by decide +kernel
theorem dX8_judge_111 : decode cX8_judge 111 = .ok (.iaload, 1) := by decide +kernel
theorem dX8_judge_112 : decode cX8_judge 112 = .ok (.i2l, 1) := by decide +kernel
theorem dX8_judge_113 : decode cX8_judge 113 = .ok (.lload 8, 2) := by decide +kernel
theorem dX8_judge_115 : decode cX8_judge 115 = .ok (.lcmp, 1) := by decide +kernel
theorem dX8_judge_116 : decode cX8_judge 116 = .ok (.ifCond .eq 6, 3) := by decide +kernel
theorem dX8_judge_119 : decode cX8_judge 119 = .ok (.iload 7, 2) := by decide +kernel
theorem dX8_judge_121 : decode cX8_judge 121 = .ok (.ireturn, 1) := by decide +kernel
theorem dX8_judge_122 : decode cX8_judge 122 = .ok (.iinc 7 1, 3) := by decide +kernel
theorem dX8_judge_125 : decode cX8_judge 125 = .ok (.goto (-55), 3) := by decide +kernel
theorem dX8_judge_128 : decode cX8_judge 128 = .ok (.bipush (-4), 2) := by decide +kernel
theorem dX8_judge_130 : decode cX8_judge 130 = .ok (.ireturn, 1) := by decide +kernel
theorem dX8_image_0 : decode cX8_image 0 = .ok (.aload_n 0, 1) := by decide +kernel
theorem dX8_image_1 : decode cX8_image 1 = .ok (.getfield 16, 3) := by decide +kernel
theorem dX8_image_4 : decode cX8_image 4 = .ok (.aload_n 0, 1) := by decide +kernel
theorem dX8_image_5 : decode cX8_image 5 = .ok (.getfield 10, 3) := by decide +kernel
theorem dX8_image_8 : decode cX8_image 8 = .ok (.invokevirtual 279, 3) := by decide +kernel
theorem dX8_image_11 : decode cX8_image 11 = .ok (.aload_n 0, 1) := by decide +kernel
theorem dX8_image_12 : decode cX8_image 12 = .ok (.iconst 1, 1) := by decide +kernel
theorem dX8_image_13 : decode cX8_image 13 = .ok (.putfield 19, 3) := by decide +kernel
theorem dX8_image_16 : decode cX8_image 16 = .ok (.iconst 1, 1) := by decide +kernel
theorem dX8_image_17 : decode cX8_image 17 = .ok (.ireturn, 1) := by decide +kernel
theorem dX8_restore_0 : decode cX8_restore 0 = .ok (.aload_n 0, 1) := by decide +kernel
theorem dX8_restore_1 : decode cX8_restore 1 = .ok (.getfield 19, 3) := by decide +kernel
theorem dX8_restore_4 : decode cX8_restore 4 = .ok (.ifCond .ne 6, 3) := by decide +kernel
theorem dX8_restore_7 : decode cX8_restore 7 = .ok (.bipush (-4), 2) := by decide +kernel
theorem dX8_restore_9 : decode cX8_restore 9 = .ok (.ireturn, 1) := by decide +kernel
theorem dX8_restore_10 : decode cX8_restore 10 = .ok (.aload_n 0, 1) := by decide +kernel
theorem dX8_restore_11 : decode cX8_restore 11 = .ok (.getfield 10, 3) := by decide +kernel
theorem dX8_restore_14 : decode cX8_restore 14 = .ok (.aload_n 0, 1) := by decide +kernel
theorem dX8_restore_15 : decode cX8_restore 15 = .ok (.getfield 16, 3) := by decide +kernel
theorem dX8_restore_18 : decode cX8_restore 18 = .ok (.invokevirtual 279, 3) := by decide +kernel
theorem dX8_restore_21 : decode cX8_restore 21 = .ok (.iconst 1, 1) := by decide +kernel
theorem dX8_restore_22 : decode cX8_restore 22 = .ok (.ireturn, 1) := by decide +kernel
theorem dX8_sheet_0 : decode cX8_sheet 0 = .ok (.iload_n 1, 1) := by decide +kernel
theorem dX8_sheet_1 : decode cX8_sheet 1 = .ok (.invokestatic 100, 3) := by decide +kernel
theorem dX8_sheet_4 : decode cX8_sheet 4 = .ok (.ifCond .eq 16, 3) := by decide +kernel
theorem dX8_sheet_7 : decode cX8_sheet 7 = .ok (.iload_n 2, 1) := by decide +kernel
theorem dX8_sheet_8 : decode cX8_sheet 8 = .ok (.invokestatic 103, 3) := by decide +kernel
theorem dX8_sheet_11 : decode cX8_sheet 11 = .ok (.ifCond .eq 9, 3) := by decide +kernel
theorem dX8_sheet_14 : decode cX8_sheet 14 = .ok (.iload_n 3, 1) := by decide +kernel
theorem dX8_sheet_15 : decode cX8_sheet 15 = .ok (.bipush 24, 2) := by decide +kernel
theorem dX8_sheet_17 : decode cX8_sheet 17 = .ok (.if_icmp .le 5, 3) := by decide +kernel
theorem dX8_sheet_20 : decode cX8_sheet 20 = .ok (.iconst (-1), 1) := by decide +kernel
theorem dX8_sheet_21 : decode cX8_sheet 21 = .ok (.ireturn, 1) := by decide +kernel
theorem dX8_sheet_22 : decode cX8_sheet 22 = .ok (.iload_n 3, 1) := by decide +kernel
theorem dX8_sheet_23 : decode cX8_sheet 23 = .ok (.ifCond .ge 6, 3) := by decide +kernel
theorem dX8_sheet_26 : decode cX8_sheet 26 = .ok (.bipush (-14), 2) := by decide +kernel
theorem dX8_sheet_28 : decode cX8_sheet 28 = .ok (.ireturn, 1) := by decide +kernel
theorem dX8_sheet_29 : decode cX8_sheet 29 = .ok (.aload_n 0, 1) := by decide +kernel
theorem dX8_sheet_30 : decode cX8_sheet 30 = .ok (.getfield 49, 3) := by decide +kernel
theorem dX8_sheet_33 : decode cX8_sheet 33 = .ok (.iload_n 1, 1) := by decide +kernel
theorem dX8_sheet_34 : decode cX8_sheet 34 = .ok (.aaload, 1) := by decide +kernel
theorem dX8_sheet_35 : decode cX8_sheet 35 = .ok (.iload_n 2, 1) := by decide +kernel
theorem dX8_sheet_36 : decode cX8_sheet 36 = .ok (.iload_n 3, 1) := by decide +kernel
theorem dX8_sheet_37 : decode cX8_sheet 37 = .ok (.invokevirtual 283, 3) := by decide +kernel
theorem dX8_sheet_40 : decode cX8_sheet 40 = .ok (.iload_n 3, 1) := by decide +kernel
theorem dX8_sheet_41 : decode cX8_sheet 41 = .ok (.ireturn, 1) := by decide +kernel
theorem dX8_drop_0 : decode cX8_drop 0 = .ok (.iload_n 1, 1) := by decide +kernel
theorem dX8_drop_1 : decode cX8_drop 1 = .ok (.invokestatic 100, 3) := by decide +kernel
theorem dX8_drop_4 : decode cX8_drop 4 = .ok (.ifCond .ne 5, 3) := by decide +kernel
theorem dX8_drop_7 : decode cX8_drop 7 = .ok (.iconst (-1), 1) := by decide +kernel
theorem dX8_drop_8 : decode cX8_drop 8 = .ok (.ireturn, 1) := by decide +kernel
theorem dX8_drop_9 : decode cX8_drop 9 = .ok (.aload_n 0, 1) := by decide +kernel
theorem dX8_drop_10 : decode cX8_drop 10 = .ok (.getfield 49, 3) := by decide +kernel
theorem dX8_drop_13 : decode cX8_drop 13 = .ok (.iload_n 1, 1) := by decide +kernel
theorem dX8_drop_14 : decode cX8_drop 14 = .ok (.aaload, 1) := by decide +kernel
theorem dX8_drop_15 : decode cX8_drop 15 = .ok (.getfield 285, 3) := by decide +kernel
theorem dX8_drop_18 : decode cX8_drop 18 = .ok (.ifCond .ne 6, 3) := by decide +kernel
theorem dX8_drop_21 : decode cX8_drop 21 = .ok (.bipush (-11), 2) := by decide +kernel
theorem dX8_drop_23 : decode cX8_drop 23 = .ok (.ireturn, 1) := by decide +kernel
theorem dX8_drop_24 : decode cX8_drop 24 = .ok (.aload_n 0, 1) := by decide +kernel
theorem dX8_drop_25 : decode cX8_drop 25 = .ok (.getfield 49, 3) := by decide +kernel
theorem dX8_drop_28 : decode cX8_drop 28 = .ok (.iload_n 1, 1) := by decide +kernel
theorem dX8_drop_29 : decode cX8_drop 29 = .ok (.aaload, 1) := by decide +kernel
theorem dX8_drop_30 : decode cX8_drop 30 = .ok (.iconst 0, 1) := by decide +kernel
theorem dX8_drop_31 : decode cX8_drop 31 = .ok (.putfield 285, 3) := by decide +kernel
theorem dX8_drop_34 : decode cX8_drop 34 = .ok (.aload_n 0, 1) := by decide +kernel
theorem dX8_drop_35 : decode cX8_drop 35 = .ok (.getfield 49, 3) := by decide +kernel
theorem dX8_drop_38 : decode cX8_drop 38 = .ok (.iload_n 1, 1) := by decide +kernel
theorem dX8_drop_39 : decode cX8_drop 39 = .ok (.aaload, 1) := by decide +kernel
theorem dX8_drop_40 : decode cX8_drop 40 = .ok (.getfield 288, 3) := by decide +kernel
theorem dX8_drop_43 : decode cX8_drop 43 = .ok (.ireturn, 1) := by decide +kernel
theorem dX8_item_0 : decode cX8_item 0 = .ok (.iload_n 1, 1) := by decide +kernel
theorem dX8_item_1 : decode cX8_item 1 = .ok (.invokestatic 100, 3) := by decide +kernel
theorem dX8_item_4 : decode cX8_item 4 = .ok (.ifCond .eq 10, 3) := by decide +kernel
theorem dX8_item_7 : decode cX8_item 7 = .ok (.iload_n 2, 1) := by decide +kernel
theorem dX8_item_8 : decode cX8_item 8 = .ok (.invokestatic 103, 3) := by decide +kernel
theorem dX8_item_11 : decode cX8_item 11 = .ok (.ifCond .ne 5, 3) := by decide +kernel
theorem dX8_item_14 : decode cX8_item 14 = .ok (.iconst (-1), 1) := by decide +kernel
theorem dX8_item_15 : decode cX8_item 15 = .ok (.ireturn, 1) := by decide +kernel
theorem dX8_item_16 : decode cX8_item 16 = .ok (.aload_n 0, 1) := by decide +kernel
theorem dX8_item_17 : decode cX8_item 17 = .ok (.getfield 49, 3) := by decide +kernel
theorem dX8_item_20 : decode cX8_item 20 = .ok (.iload_n 1, 1) := by decide +kernel
theorem dX8_item_21 : decode cX8_item 21 = .ok (.aaload, 1) := by decide +kernel
theorem dX8_item_22 : decode cX8_item 22 = .ok (.iload_n 2, 1) := by decide +kernel
theorem dX8_item_23 : decode cX8_item 23 = .ok (.iload_n 3, 1) := by decide +kernel
theorem dX8_item_24 : decode cX8_item 24 = .ok (.iconst 1, 1) := by decide +kernel
theorem dX8_item_25 : decode cX8_item 25 = .ok (.invokevirtual 106, 3) := by decide +kernel
theorem dX8_item_28 : decode cX8_item 28 = .ok (.istore 5, 2) := by decide +kernel
theorem dX8_item_30 : decode cX8_item 30 = .ok (.iload 5, 2) := by decide +kernel
theorem dX8_item_32 : decode cX8_item 32 = .ok (.ifCond .eq 6, 3) := by decide +kernel
theorem dX8_item_35 : decode cX8_item 35 = .ok (.iload 5, 2) := by decide +kernel
theorem dX8_item_37 : decode cX8_item 37 = .ok (.ireturn, 1) := by decide +kernel
theorem dX8_item_38 : decode cX8_item 38 = .ok (.aload_n 0, 1) := by decide +kernel
theorem dX8_item_39 : decode cX8_item 39 = .ok (.getfield 49, 3) := by decide +kernel
theorem dX8_item_42 : decode cX8_item 42 = .ok (.iload_n 1, 1) := by decide +kernel
theorem dX8_item_43 : decode cX8_item 43 = .ok (.aaload, 1) := by decide +kernel
theorem dX8_item_44 : decode cX8_item 44 = .ok (.iload_n 3, 1) := by decide +kernel
theorem dX8_item_45 : decode cX8_item 45 = .ok (.iload 4, 2) := by decide +kernel
theorem dX8_item_47 : decode cX8_item 47 = .ok (.invokevirtual 289, 3) := by decide +kernel
theorem dX8_item_50 : decode cX8_item 50 = .ok (.iconst 1, 1) := by decide +kernel
theorem dX8_item_51 : decode cX8_item 51 = .ok (.ireturn, 1) := by decide +kernel
theorem dX8_within_0 : decode cX8_within 0 = .ok (.iload_n 0, 1) := by decide +kernel
theorem dX8_within_1 : decode cX8_within 1 = .ok (.iload_n 1, 1) := by decide +kernel
theorem dX8_within_2 : decode cX8_within 2 = .ok (.if_icmp .lt 12, 3) := by decide +kernel
theorem dX8_within_5 : decode cX8_within 5 = .ok (.iload_n 0, 1) := by decide +kernel
theorem dX8_within_6 : decode cX8_within 6 = .ok (.iload_n 2, 1) := by decide +kernel
theorem dX8_within_7 : decode cX8_within 7 = .ok (.if_icmp .gt 7, 3) := by decide +kernel
theorem dX8_within_10 : decode cX8_within 10 = .ok (.iconst 1, 1) := by decide +kernel
theorem dX8_within_11 : decode cX8_within 11 = .ok (.goto 4, 3) := by decide +kernel
theorem dX8_within_14 : decode cX8_within 14 = .ok (.iconst 0, 1) := by decide +kernel
theorem dX8_within_15 : decode cX8_within 15 = .ok (.ireturn, 1) := by decide +kernel
theorem dX8_isDay_0 : decode cX8_isDay 0 = .ok (.iload_n 0, 1) := by decide +kernel
theorem dX8_isDay_1 : decode cX8_isDay 1 = .ok (.iconst 0, 1) := by decide +kernel
theorem dX8_isDay_2 : decode cX8_isDay 2 = .ok (.sipush 299, 3) := by decide +kernel
theorem dX8_isDay_5 : decode cX8_isDay 5 = .ok (.invokestatic 54, 3) := by decide +kernel
theorem dX8_isDay_8 : decode cX8_isDay 8 = .ok (.ireturn, 1) := by decide +kernel
theorem dX8_isPayable_0 : decode cX8_isPayable 0 = .ok (.iload_n 0, 1) := by decide +kernel
theorem dX8_isPayable_1 : decode cX8_isPayable 1 = .ok (.invokestatic 58, 3) := by decide +kernel
theorem dX8_isPayable_4 : decode cX8_isPayable 4 = .ok (.ifCond .eq 18, 3) := by decide +kernel
theorem dX8_isPayable_7 : decode cX8_isPayable 7 = .ok (.iload_n 1, 1) := by decide +kernel
theorem dX8_isPayable_8 : decode cX8_isPayable 8 = .ok (.iconst 1, 1) := by decide +kernel
theorem dX8_isPayable_9 : decode cX8_isPayable 9 = .ok (.sipush 9999, 3) := by decide +kernel
theorem dX8_isPayable_12 : decode cX8_isPayable 12 = .ok (.invokestatic 54, 3) := by decide +kernel
theorem dX8_isPayable_15 : decode cX8_isPayable 15 = .ok (.ifCond .eq 7, 3) := by decide +kernel
theorem dX8_isPayable_18 : decode cX8_isPayable 18 = .ok (.iconst 1, 1) := by decide +kernel
theorem dX8_isPayable_19 : decode cX8_isPayable 19 = .ok (.goto 4, 3) := by decide +kernel
theorem dX8_isPayable_22 : decode cX8_isPayable 22 = .ok (.iconst 0, 1) := by decide +kernel
theorem dX8_isPayable_23 : decode cX8_isPayable 23 = .ok (.ireturn, 1) := by decide +kernel
theorem dX8_isLaw_0 : decode cX8_isLaw 0 = .ok (.iload_n 0, 1) := by decide +kernel
theorem dX8_isLaw_1 : decode cX8_isLaw 1 = .ok (.iconst 0, 1) := by decide +kernel
theorem dX8_isLaw_2 : decode cX8_isLaw 2 = .ok (.iconst 1, 1) := by decide +kernel
theorem dX8_isLaw_3 : decode cX8_isLaw 3 = .ok (.invokestatic 54, 3) := by decide +kernel
theorem dX8_isLaw_6 : decode cX8_isLaw 6 = .ok (.ireturn, 1) := by decide +kernel
theorem dX8_isSheet_0 : decode cX8_isSheet 0 = .ok (.iload_n 0, 1) := by decide +kernel
theorem dX8_isSheet_1 : decode cX8_isSheet 1 = .ok (.iconst 0, 1) := by decide +kernel
theorem dX8_isSheet_2 : decode cX8_isSheet 2 = .ok (.iconst 3, 1) := by decide +kernel
theorem dX8_isSheet_3 : decode cX8_isSheet 3 = .ok (.invokestatic 54, 3) := by decide +kernel
theorem dX8_isSheet_6 : decode cX8_isSheet 6 = .ok (.ireturn, 1) := by decide +kernel
theorem dX8_isLane_0 : decode cX8_isLane 0 = .ok (.iload_n 0, 1) := by decide +kernel
theorem dX8_isLane_1 : decode cX8_isLane 1 = .ok (.iconst 0, 1) := by decide +kernel
theorem dX8_isLane_2 : decode cX8_isLane 2 = .ok (.iconst 2, 1) := by decide +kernel
theorem dX8_isLane_3 : decode cX8_isLane 3 = .ok (.invokestatic 54, 3) := by decide +kernel
theorem dX8_isLane_6 : decode cX8_isLane 6 = .ok (.ireturn, 1) := by decide +kernel
theorem dX8_isDebt_0 : decode cX8_isDebt 0 = .ok (.iload_n 1, 1) := by decide +kernel
theorem dX8_isDebt_1 : decode cX8_isDebt 1 = .ok (.iconst 0, 1) := by decide +kernel
theorem dX8_isDebt_2 : decode cX8_isDebt 2 = .ok (.aload_n 0, 1) := by decide +kernel
theorem dX8_isDebt_3 : decode cX8_isDebt 3 = .ok (.getfield 10, 3) := by decide +kernel
theorem dX8_isDebt_6 : decode cX8_isDebt 6 = .ok (.getfield 62, 3) := by decide +kernel
theorem dX8_isDebt_9 : decode cX8_isDebt 9 = .ok (.iconst 1, 1) := by decide +kernel
theorem dX8_isDebt_10 : decode cX8_isDebt 10 = .ok (.isub, 1) := by decide +kernel
theorem dX8_isDebt_11 : decode cX8_isDebt 11 = .ok (.invokestatic 54, 3) := by decide +kernel
theorem dX8_isDebt_14 : decode cX8_isDebt 14 = .ok (.ireturn, 1) := by decide +kernel
theorem dX8_isDebtOrNone_0 : decode cX8_isDebtOrNone 0 = .ok (.iload_n 1, 1) := by decide +kernel
theorem dX8_isDebtOrNone_1 : decode cX8_isDebtOrNone 1 = .ok (.iconst (-1), 1) := by decide +kernel
theorem dX8_isDebtOrNone_2 : decode cX8_isDebtOrNone 2 = .ok (.if_icmp .eq 11, 3) := by decide +kernel
theorem dX8_isDebtOrNone_5 : decode cX8_isDebtOrNone 5 = .ok (.aload_n 0, 1) := by decide +kernel
theorem dX8_isDebtOrNone_6 : decode cX8_isDebtOrNone 6 = .ok (.iload_n 1, 1) := by decide +kernel
theorem dX8_isDebtOrNone_7 : decode cX8_isDebtOrNone 7 = .ok (.invokevirtual 76, 3) := by decide +kernel
theorem dX8_isDebtOrNone_10 : decode cX8_isDebtOrNone 10 = .ok (.ifCond .eq 7, 3) := by decide +kernel
theorem dX8_isDebtOrNone_13 : decode cX8_isDebtOrNone 13 = .ok (.iconst 1, 1) := by decide +kernel
theorem dX8_isDebtOrNone_14 : decode cX8_isDebtOrNone 14 = .ok (.goto 4, 3) := by decide +kernel
theorem dX8_isDebtOrNone_17 : decode cX8_isDebtOrNone 17 = .ok (.iconst 0, 1) := by decide +kernel
theorem dX8_isDebtOrNone_18 : decode cX8_isDebtOrNone 18 = .ok (.ireturn, 1) := by decide +kernel
theorem dX8_isPayment_0 : decode cX8_isPayment 0 = .ok (.iload_n 1, 1) := by decide +kernel
theorem dX8_isPayment_1 : decode cX8_isPayment 1 = .ok (.iconst 0, 1) := by decide +kernel
theorem dX8_isPayment_2 : decode cX8_isPayment 2 = .ok (.aload_n 0, 1) := by decide +kernel
theorem dX8_isPayment_3 : decode cX8_isPayment 3 = .ok (.getfield 10, 3) := by decide +kernel
theorem dX8_isPayment_6 : decode cX8_isPayment 6 = .ok (.getfield 93, 3) := by decide +kernel
theorem dX8_isPayment_9 : decode cX8_isPayment 9 = .ok (.iconst 1, 1) := by decide +kernel
theorem dX8_isPayment_10 : decode cX8_isPayment 10 = .ok (.isub, 1) := by decide +kernel
theorem dX8_isPayment_11 : decode cX8_isPayment 11 = .ok (.invokestatic 54, 3) := by decide +kernel
theorem dX8_isPayment_14 : decode cX8_isPayment 14 = .ok (.ireturn, 1) := by decide +kernel
theorem dX8_dayOrNone_0 : decode cX8_dayOrNone 0 = .ok (.iload_n 0, 1) := by decide +kernel
theorem dX8_dayOrNone_1 : decode cX8_dayOrNone 1 = .ok (.iconst (-1), 1) := by decide +kernel
theorem dX8_dayOrNone_2 : decode cX8_dayOrNone 2 = .ok (.if_icmp .ne 8, 3) := by decide +kernel
theorem dX8_dayOrNone_5 : decode cX8_dayOrNone 5 = .ok (.bipush (-4), 2) := by decide +kernel
theorem dX8_dayOrNone_7 : decode cX8_dayOrNone 7 = .ok (.goto 4, 3) := by decide +kernel
theorem dX8_dayOrNone_10 : decode cX8_dayOrNone 10 = .ok (.iload_n 0, 1) := by decide +kernel
theorem dX8_dayOrNone_11 : decode cX8_dayOrNone 11 = .ok (.ireturn, 1) := by decide +kernel
theorem dX8_byteOf_0 : decode cX8_byteOf 0 = .ok (.lload_n 0, 1) := by decide +kernel
theorem dX8_byteOf_1 : decode cX8_byteOf 1 = .ok (.bipush 8, 2) := by decide +kernel
theorem dX8_byteOf_3 : decode cX8_byteOf 3 = .ok (.iload_n 2, 1) := by decide +kernel
theorem dX8_byteOf_4 : decode cX8_byteOf 4 = .ok (.imul, 1) := by decide +kernel
theorem dX8_byteOf_5 : decode cX8_byteOf 5 = .ok (.lushr, 1) := by decide +kernel
theorem dX8_byteOf_6 : decode cX8_byteOf 6 = .ok (.l2i, 1) := by decide +kernel
theorem dX8_byteOf_7 : decode cX8_byteOf 7 = .ok (.sipush 255, 3) := by decide +kernel
theorem dX8_byteOf_10 : decode cX8_byteOf 10 = .ok (.iand, 1) := by decide +kernel
theorem dX8_byteOf_11 : decode cX8_byteOf 11 = .ok (.ireturn, 1) := by decide +kernel
theorem dX8_allSigns_0 : decode cX8_allSigns 0 = .ok (.iconst 0, 1) := by decide +kernel
theorem dX8_allSigns_1 : decode cX8_allSigns 1 = .ok (.istore_n 3, 1) := by decide +kernel
theorem dX8_allSigns_2 : decode cX8_allSigns 2 = .ok (.iload_n 3, 1) := by decide +kernel
theorem dX8_allSigns_3 : decode cX8_allSigns 3 = .ok (.iload_n 2, 1) := by decide +kernel
theorem dX8_allSigns_4 : decode cX8_allSigns 4 = .ok (.if_icmp .ge 26, 3) := by decide +kernel
theorem dX8_allSigns_7 : decode cX8_allSigns 7 = .ok (.lload_n 0, 1) := by decide +kernel
theorem dX8_allSigns_8 : decode cX8_allSigns 8 = .ok (.iload_n 3, 1) := by decide +kernel
theorem dX8_allSigns_9 : decode cX8_allSigns 9 = .ok (.invokestatic 145, 3) := by decide +kernel
theorem dX8_allSigns_12 : decode cX8_allSigns 12 = .ok (.bipush 32, 2) := by decide +kernel
theorem dX8_allSigns_14 : decode cX8_allSigns 14 = .ok (.bipush 126, 2) := by decide +kernel
theorem dX8_allSigns_16 : decode cX8_allSigns 16 = .ok (.invokestatic 54, 3) := by decide +kernel
theorem dX8_allSigns_19 : decode cX8_allSigns 19 = .ok (.ifCond .ne 5, 3) := by decide +kernel
theorem dX8_allSigns_22 : decode cX8_allSigns 22 = .ok (.iconst 0, 1) := by decide +kernel
theorem dX8_allSigns_23 : decode cX8_allSigns 23 = .ok (.ireturn, 1) := by decide +kernel
theorem dX8_allSigns_24 : decode cX8_allSigns 24 = .ok (.iinc 3 1, 3) := by decide +kernel
theorem dX8_allSigns_27 : decode cX8_allSigns 27 = .ok (.goto (-25), 3) := by decide +kernel
theorem dX8_allSigns_30 : decode cX8_allSigns 30 = .ok (.iconst 1, 1) := by decide +kernel
theorem dX8_allSigns_31 : decode cX8_allSigns 31 = .ok (.ireturn, 1) := by decide +kernel
theorem dX8_goBehind_0 : decode cX8_goBehind 0 = .ok (.aload_n 0, 1) := by decide +kernel
theorem dX8_goBehind_1 : decode cX8_goBehind 1 = .ok (.getfield 26, 3) := by decide +kernel
theorem dX8_goBehind_4 : decode cX8_goBehind 4 = .ok (.aload_n 0, 1) := by decide +kernel
theorem dX8_goBehind_5 : decode cX8_goBehind 5 = .ok (.getfield 10, 3) := by decide +kernel
theorem dX8_goBehind_8 : decode cX8_goBehind 8 = .ok (.iload_n 1, 1) := by decide +kernel
theorem dX8_goBehind_9 : decode cX8_goBehind 9 = .ok (.invokevirtual 193, 3) := by decide +kernel
theorem dX8_goBehind_12 : decode cX8_goBehind 12 = .ok (.aload_n 0, 1) := by decide +kernel
theorem dX8_goBehind_13 : decode cX8_goBehind 13 = .ok (.getfield 26, 3) := by decide +kernel
theorem dX8_goBehind_16 : decode cX8_goBehind 16 = .ok (.iload_n 2, 1) := by decide +kernel
theorem dX8_goBehind_17 : decode cX8_goBehind 17 = .ok (.invokevirtual 255, 3) := by decide +kernel
theorem dX8_goBehind_20 : decode cX8_goBehind 20 = .ok (.return_, 1) := by decide +kernel
theorem dX9_in_0 : decode cX9_in 0 = .ok (.lload_n 0, 1) := by decide +kernel
theorem dX9_in_1 : decode cX9_in 1 = .ok (.lload_n 2, 1) := by decide +kernel
theorem dX9_in_2 : decode cX9_in 2 = .ok (.lcmp, 1) := by decide +kernel
theorem dX9_in_3 : decode cX9_in 3 = .ok (.ifCond .lt 14, 3) := by decide +kernel
theorem dX9_in_6 : decode cX9_in 6 = .ok (.lload_n 0, 1) := by decide +kernel
theorem dX9_in_7 : decode cX9_in 7 = .ok (.lload 4, 2) := by decide +kernel
theorem dX9_in_9 : decode cX9_in 9 = .ok (.lcmp, 1) := by decide +kernel
theorem dX9_in_10 : decode cX9_in 10 = .ok (.ifCond .gt 7, 3) := by decide +kernel
theorem dX9_in_13 : decode cX9_in 13 = .ok (.iconst 1, 1) := by decide +kernel
theorem dX9_in_14 : decode cX9_in 14 = .ok (.goto 4, 3) := by decide +kernel
theorem dX9_in_17 : decode cX9_in 17 = .ok (.iconst 0, 1) := by decide +kernel
theorem dX9_in_18 : decode cX9_in 18 = .ok (.ireturn, 1) := by decide +kernel
theorem dX9_init_0 : decode cX9_init 0 = .ok (.aload_n 0, 1) := by decide +kernel
theorem dX9_init_1 : decode cX9_init 1 = .ok (.invokespecial 1, 3) := by decide +kernel
theorem dX9_init_4 : decode cX9_init 4 = .ok (.aload_n 0, 1) := by decide +kernel
theorem dX9_init_5 : decode cX9_init 5 = .ok (.bipush 64, 2) := by decide +kernel
theorem dX9_init_7 : decode cX9_init 7 = .ok (.newarray .int, 2) := by decide +kernel
theorem dX9_init_9 : decode cX9_init 9 = .ok (.putfield 7, 3) := by decide +kernel
theorem dX9_init_12 : decode cX9_init 12 = .ok (.aload_n 0, 1) := by decide +kernel
theorem dX9_init_13 : decode cX9_init 13 = .ok (.bipush 48, 2) := by decide +kernel
theorem dX9_init_15 : decode cX9_init 15 = .ok (.newarray .int, 2) := by decide +kernel
theorem dX9_init_17 : decode cX9_init 17 = .ok (.putfield 13, 3) := by decide +kernel
theorem dX9_init_20 : decode cX9_init 20 = .ok (.aload_n 0, 1) := by decide +kernel
theorem dX9_init_21 : decode cX9_init 21 = .ok (.bipush 40, 2) := by decide +kernel
theorem dX9_init_23 : decode cX9_init 23 = .ok (.newarray .int, 2) := by decide +kernel
theorem dX9_init_25 : decode cX9_init 25 = .ok (.putfield 16, 3) := by decide +kernel
theorem dX9_init_28 : decode cX9_init 28 = .ok (.aload_n 0, 1) := by decide +kernel
theorem dX9_init_29 : decode cX9_init 29 = .ok (.bipush 24, 2) := by decide +kernel
theorem dX9_init_31 : decode cX9_init 31 = .ok (.newarray .int, 2) := by decide +kernel
theorem dX9_init_33 : decode cX9_init 33 = .ok (.putfield 19, 3) := by decide +kernel
theorem dX9_init_36 : decode cX9_init 36 = .ok (.aload_n 0, 1) := by decide +kernel
theorem dX9_init_37 : decode cX9_init 37 = .ok (.iconst 2, 1) := by decide +kernel
theorem dX9_init_38 : decode cX9_init 38 = .ok (.newarray .int, 2) := by decide +kernel
theorem dX9_init_40 : decode cX9_init 40 = .ok (.putfield 22, 3) := by decide +kernel
theorem dX9_init_43 : decode cX9_init 43 = .ok (.aload_n 0, 1) := by decide +kernel
theorem dX9_init_44 : decode cX9_init 44 = .ok (.bipush 12, 2) := by decide +kernel
theorem dX9_init_46 : decode cX9_init 46 = .ok (.newarray .int, 2) := by decide +kernel
theorem dX9_init_48 : decode cX9_init 48 = .ok (.putfield 25, 3) := by decide +kernel
theorem dX9_init_51 : decode cX9_init 51 = .ok (.aload_n 0, 1) := by decide +kernel
theorem dX9_init_52 : decode cX9_init 52 = .ok (.bipush 8, 2) := by decide +kernel
theorem dX9_init_54 : decode cX9_init 54 = .ok (.newarray .long, 2) := by decide +kernel
theorem dX9_init_56 : decode cX9_init 56 = .ok (.putfield 28, 3) := by decide +kernel
theorem dX9_init_59 : decode cX9_init 59 = .ok (.aload_n 0, 1) := by decide +kernel
theorem dX9_init_60 : decode cX9_init 60 = .ok (.bipush 8, 2) := by decide +kernel
theorem dX9_init_62 : decode cX9_init 62 = .ok (.newarray .long, 2) := by decide +kernel
theorem dX9_init_64 : decode cX9_init 64 = .ok (.putfield 32, 3) := by decide +kernel
theorem dX9_init_67 : decode cX9_init 67 = .ok (.aload_n 0, 1) := by decide +kernel
theorem dX9_init_68 : decode cX9_init 68 = .ok (.bipush 8, 2) := by decide +kernel
theorem dX9_init_70 : decode cX9_init 70 = .ok (.newarray .int, 2) := by decide +kernel
theorem dX9_init_72 : decode cX9_init 72 = .ok (.putfield 35, 3) := by decide +kernel
theorem dX9_init_75 : decode cX9_init 75 = .ok (.aload_n 0, 1) := by decide +kernel
theorem dX9_init_76 : decode cX9_init 76 = .ok (.bipush 8, 2) := by decide +kernel
theorem dX9_init_78 : decode cX9_init 78 = .ok (.newarray .int, 2) := by decide +kernel
theorem dX9_init_80 : decode cX9_init 80 = .ok (.putfield 38, 3) := by decide +kernel
theorem dX9_init_83 : decode cX9_init 83 = .ok (.aload_n 0, 1) := by decide +kernel
theorem dX9_init_84 : decode cX9_init 84 = .ok (.bipush 8, 2) := by decide +kernel
theorem dX9_init_86 : decode cX9_init 86 = .ok (.newarray .long, 2) := by decide +kernel
theorem dX9_init_88 : decode cX9_init 88 = .ok (.putfield 41, 3) := by decide +kernel
theorem dX9_init_91 : decode cX9_init 91 = .ok (.aload_n 0, 1) := by decide +kernel
theorem dX9_init_92 : decode cX9_init 92 = .ok (.bipush 8, 2) := by decide +kernel
theorem dX9_init_94 : decode cX9_init 94 = .ok (.newarray .long, 2) := by decide +kernel
theorem dX9_init_96 : decode cX9_init 96 = .ok (.putfield 44, 3) := by decide +kernel
theorem dX9_init_99 : decode cX9_init 99 = .ok (.aload_n 0, 1) := by decide +kernel
theorem dX9_init_100 : decode cX9_init 100 = .ok (.bipush 8, 2) := by decide +kernel
theorem dX9_init_102 : decode cX9_init 102 = .ok (.newarray .boolean, 2) := by decide +kernel
theorem dX9_init_104 : decode cX9_init 104 = .ok (.putfield 47, 3) := by decide +kernel
theorem dX9_init_107 : decode cX9_init 107 = .ok (.aload_n 0, 1) := by decide +kernel
theorem dX9_init_108 : decode cX9_init 108 = .ok (.bipush 8, 2) := by decide +kernel
theorem dX9_init_110 : decode cX9_init 110 = .ok (.newarray .int, 2) := by decide +kernel
theorem dX9_init_112 : decode cX9_init 112 = .ok (.putfield 51, 3) := by decide +kernel
theorem dX9_init_115 : decode cX9_init 115 = .ok (.aload_n 0, 1) := by decide +kernel
theorem dX9_init_116 : decode cX9_init 116 = .ok (.bipush 8, 2) := by decide +kernel
theorem dX9_init_118 : decode cX9_init 118 = .ok (.newarray .long, 2) := by decide +kernel
theorem dX9_init_120 : decode cX9_init 120 = .ok (.putfield 54, 3) := by decide +kernel
theorem dX9_init_123 : decode cX9_init 123 = .ok (.aload_n 0, 1) := by decide +kernel
theorem dX9_init_124 : decode cX9_init 124 = .ok (.bipush 8, 2) := by decide +kernel
theorem dX9_init_126 : decode cX9_init 126 = .ok (.newarray .int, 2) := by decide +kernel
theorem dX9_init_128 : decode cX9_init 128 = .ok (.putfield 57, 3) := by decide +kernel
theorem dX9_init_131 : decode cX9_init 131 = .ok (.aload_n 0, 1) := by decide +kernel
theorem dX9_init_132 : decode cX9_init 132 = .ok (.iconst 3, 1) := by decide +kernel
theorem dX9_init_133 : decode cX9_init 133 = .ok (.newarray .int, 2) := by decide +kernel
theorem dX9_init_135 : decode cX9_init 135 = .ok (.putfield 60, 3) := by decide +kernel
theorem dX9_init_138 : decode cX9_init 138 = .ok (.aload_n 0, 1) := by decide +kernel
theorem dX9_init_139 : decode cX9_init 139 = .ok (.iconst 3, 1) := by decide +kernel
theorem dX9_init_140 : decode cX9_init 140 = .ok (.newarray .int, 2) := by decide +kernel
theorem dX9_init_142 : decode cX9_init 142 = .ok (.putfield 63, 3) := by decide +kernel
theorem dX9_init_145 : decode cX9_init 145 = .ok (.aload_n 0, 1) := by decide +kernel
theorem dX9_init_146 : decode cX9_init 146 = .ok (.sipush 2400, 3) := by decide +kernel
theorem dX9_init_149 : decode cX9_init 149 = .ok (.newarray .long, 2) := by decide +kernel
theorem dX9_init_151 : decode cX9_init 151 = .ok (.putfield 66, 3) := by decide +kernel
theorem dX9_init_154 : decode cX9_init 154 = .ok (.aload_n 0, 1) := by decide +kernel
theorem dX9_init_155 : decode cX9_init 155 = .ok (.sipush 140, 3) := by decide +kernel
theorem dX9_init_158 : decode cX9_init 158 = .ok (.newarray .int, 2) := by decide +kernel
theorem dX9_init_160 : decode cX9_init 160 = .ok (.putfield 69, 3) := by decide +kernel
theorem dX9_init_163 : decode cX9_init 163 = .ok (.aload_n 0, 1) := by decide +kernel
theorem dX9_init_164 : decode cX9_init 164 = .ok (.iconst 4, 1) := by decide +kernel
theorem dX9_init_165 : decode cX9_init 165 = .ok (.newarray .int, 2) := by decide +kernel
theorem dX9_init_167 : decode cX9_init 167 = .ok (.putfield 72, 3) := by decide +kernel
theorem dX9_init_170 : decode cX9_init 170 = .ok (.aload_n 0, 1) := by decide +kernel
theorem dX9_init_171 : decode cX9_init 171 = .ok (.iconst 4, 1) := by decide +kernel
theorem dX9_init_172 : decode cX9_init 172 = .ok (.newarray .int, 2) := by decide +kernel
theorem dX9_init_174 : decode cX9_init 174 = .ok (.putfield 75, 3) := by decide +kernel
theorem dX9_init_177 : decode cX9_init 177 = .ok (.aload_n 0, 1) := by decide +kernel
theorem dX9_init_178 : decode cX9_init 178 = .ok (.bipush 96, 2) := by decide +kernel
theorem dX9_init_180 : decode cX9_init 180 = .ok (.newarray .int, 2) := by decide +kernel
theorem dX9_init_182 : decode cX9_init 182 = .ok (.putfield 78, 3) := by decide +kernel
theorem dX9_init_185 : decode cX9_init 185 = .ok (.iconst 0, 1) := by decide +kernel
theorem dX9_init_186 : decode cX9_init 186 = .ok (.istore_n 1, 1) := by decide +kernel
theorem dX9_init_187 : decode cX9_init 187 = .ok (.iload_n 1, 1) := by decide +kernel
theorem dX9_init_188 : decode cX9_init 188 = .ok (.iconst 4, 1) := by decide +kernel
theorem dX9_init_189 : decode cX9_init 189 = .ok (.if_icmp .ge 16, 3) := by decide +kernel
theorem dX9_init_192 : decode cX9_init 192 = .ok (.aload_n 0, 1) := by decide +kernel
theorem dX9_init_193 : decode cX9_init 193 = .ok (.getfield 72, 3) := by decide +kernel
theorem dX9_init_196 : decode cX9_init 196 = .ok (.iload_n 1, 1) := by decide +kernel
theorem dX9_init_197 : decode cX9_init 197 = .ok (.iconst (-1), 1) := by decide +kernel
theorem dX9_init_198 : decode cX9_init 198 = .ok (.iastore, 1) := by decide +kernel
theorem dX9_init_199 : decode cX9_init 199 = .ok (.iinc 1 1, 3) := by decide +kernel
theorem dX9_init_202 : decode cX9_init 202 = .ok (.goto (-15), 3) := by decide +kernel
theorem dX9_init_205 : decode cX9_init 205 = .ok (.return_, 1) := by decide +kernel
theorem dX9_isDay_0 : decode cX9_isDay 0 = .ok (.iload_n 0, 1) := by decide +kernel
theorem dX9_isDay_1 : decode cX9_isDay 1 = .ok (.i2l, 1) := by decide +kernel
theorem dX9_isDay_2 : decode cX9_isDay 2 = .ok (.lconst 0, 1) := by decide +kernel
theorem dX9_isDay_3 : decode cX9_isDay 3 = .ok (.ldc2_w 81, 3) := by decide +kernel
theorem dX9_isDay_6 : decode cX9_isDay 6 = .ok (.invokestatic 83, 3) := by decide +kernel
theorem dX9_isDay_9 : decode cX9_isDay 9 = .ok (.ireturn, 1) := by decide +kernel
theorem dX9_isDebt_0 : decode cX9_isDebt 0 = .ok (.iload_n 1, 1) := by decide +kernel
theorem dX9_isDebt_1 : decode cX9_isDebt 1 = .ok (.i2l, 1) := by decide +kernel
theorem dX9_isDebt_2 : decode cX9_isDebt 2 = .ok (.lconst 0, 1) := by decide +kernel
theorem dX9_isDebt_3 : decode cX9_isDebt 3 = .ok (.aload_n 0, 1) := by decide +kernel
theorem dX9_isDebt_4 : decode cX9_isDebt 4 = .ok (.getfield 87, 3) := by decide +kernel
theorem dX9_isDebt_7 : decode cX9_isDebt 7 = .ok (.iconst 1, 1) := by decide +kernel
theorem dX9_isDebt_8 : decode cX9_isDebt 8 = .ok (.isub, 1) := by decide +kernel
theorem dX9_isDebt_9 : decode cX9_isDebt 9 = .ok (.i2l, 1) := by decide +kernel
theorem dX9_isDebt_10 : decode cX9_isDebt 10 = .ok (.invokestatic 83, 3) := by decide +kernel
theorem dX9_isDebt_13 : decode cX9_isDebt 13 = .ok (.ireturn, 1) := by decide +kernel
theorem dX9_isPayment_0 : decode cX9_isPayment 0 = .ok (.iload_n 1, 1) := by decide +kernel
theorem dX9_isPayment_1 : decode cX9_isPayment 1 = .ok (.i2l, 1) := by decide +kernel
theorem dX9_isPayment_2 : decode cX9_isPayment 2 = .ok (.lconst 0, 1) := by decide +kernel
theorem dX9_isPayment_3 : decode cX9_isPayment 3 = .ok (.aload_n 0, 1) := by decide +kernel
theorem dX9_isPayment_4 : decode cX9_isPayment 4 = .ok (.getfield 91, 3) := by decide +kernel
theorem dX9_isPayment_7 : decode cX9_isPayment 7 = .ok (.iconst 1, 1) := by decide +kernel
theorem dX9_isPayment_8 : decode cX9_isPayment 8 = .ok (.isub, 1) := by decide +kernel
theorem dX9_isPayment_9 : decode cX9_isPayment 9 = .ok (.i2l, 1) := by decide +kernel
theorem dX9_isPayment_10 : decode cX9_isPayment 10 = .ok (.invokestatic 83, 3) := by decide +kernel
theorem dX9_isPayment_13 : decode cX9_isPayment 13 = .ok (.ireturn, 1) := by decide +kernel
theorem dX9_isLaw_0 : decode cX9_isLaw 0 = .ok (.iload_n 0, 1) := by decide +kernel
theorem dX9_isLaw_1 : decode cX9_isLaw 1 = .ok (.i2l, 1) := by decide +kernel
theorem dX9_isLaw_2 : decode cX9_isLaw 2 = .ok (.lconst 0, 1) := by decide +kernel
theorem dX9_isLaw_3 : decode cX9_isLaw 3 = .ok (.lconst 1, 1) := by decide +kernel
theorem dX9_isLaw_4 : decode cX9_isLaw 4 = .ok (.invokestatic 83, 3) := by decide +kernel
theorem dX9_isLaw_7 : decode cX9_isLaw 7 = .ok (.ireturn, 1) := by decide +kernel
theorem dX9_debt_0 : decode cX9_debt 0 = .ok (.iload_n 1, 1) := by decide +kernel
theorem dX9_debt_1 : decode cX9_debt 1 = .ok (.i2l, 1) := by decide +kernel
theorem dX9_debt_2 : decode cX9_debt 2 = .ok (.lconst 1, 1) := by decide +kernel
theorem dX9_debt_3 : decode cX9_debt 3 = .ok (.ldc2_w 94, 3) := by decide +kernel
theorem dX9_debt_6 : decode cX9_debt 6 = .ok (.invokestatic 83, 3) := by decide +kernel
theorem dX9_debt_9 : decode cX9_debt 9 = .ok (.ifCond .eq 30, 3) := by decide +kernel
theorem dX9_debt_12 : decode cX9_debt 12 = .ok (.iload_n 2, 1) := by decide +kernel
theorem dX9_debt_13 : decode cX9_debt 13 = .ok (.invokestatic 96, 3) := by decide +kernel
theorem dX9_debt_16 : decode cX9_debt 16 = .ok (.ifCond .eq 23, 3) := by decide +kernel
theorem dX9_debt_19 : decode cX9_debt 19 = .ok (.iload_n 3, 1) := by decide +kernel
theorem dX9_debt_20 : decode cX9_debt 20 = .ok (.invokestatic 96, 3) := by decide +kernel
theorem dX9_debt_23 : decode cX9_debt 23 = .ok (.ifCond .eq 16, 3) := by decide +kernel
theorem dX9_debt_26 : decode cX9_debt 26 = .ok (.iload 4, 2) := by decide +kernel
theorem dX9_debt_28 : decode cX9_debt 28 = .ok (.i2l, 1) := by decide +kernel
theorem dX9_debt_29 : decode cX9_debt 29 = .ok (.lconst 0, 1) := by decide +kernel
theorem dX9_debt_30 : decode cX9_debt 30 = .ok (.ldc2_w 100, 3) := by decide +kernel
theorem dX9_debt_33 : decode cX9_debt 33 = .ok (.invokestatic 83, 3) := by decide +kernel
theorem dX9_debt_36 : decode cX9_debt 36 = .ok (.ifCond .ne 5, 3) := by decide +kernel
theorem dX9_debt_39 : decode cX9_debt 39 = .ok (.iconst (-1), 1) := by decide +kernel
theorem dX9_debt_40 : decode cX9_debt 40 = .ok (.ireturn, 1) := by decide +kernel
theorem dX9_debt_41 : decode cX9_debt 41 = .ok (.aload_n 0, 1) := by decide +kernel
theorem dX9_debt_42 : decode cX9_debt 42 = .ok (.getfield 87, 3) := by decide +kernel
theorem dX9_debt_45 : decode cX9_debt 45 = .ok (.bipush 8, 2) := by decide +kernel
theorem dX9_debt_47 : decode cX9_debt 47 = .ok (.if_icmp .ne 6, 3) := by decide +kernel
theorem dX9_debt_50 : decode cX9_debt 50 = .ok (.bipush (-3), 2) := by decide +kernel
theorem dX9_debt_52 : decode cX9_debt 52 = .ok (.ireturn, 1) := by decide +kernel
theorem dX9_debt_53 : decode cX9_debt 53 = .ok (.bipush 8, 2) := by decide +kernel
theorem dX9_debt_55 : decode cX9_debt 55 = .ok (.aload_n 0, 1) := by decide +kernel
theorem dX9_debt_56 : decode cX9_debt 56 = .ok (.getfield 87, 3) := by decide +kernel
theorem dX9_debt_59 : decode cX9_debt 59 = .ok (.imul, 1) := by decide +kernel
theorem dX9_debt_60 : decode cX9_debt 60 = .ok (.istore 5, 2) := by decide +kernel
theorem dX9_debt_62 : decode cX9_debt 62 = .ok (.aload_n 0, 1) := by decide +kernel
theorem dX9_debt_63 : decode cX9_debt 63 = .ok (.getfield 7, 3) := by decide +kernel
theorem dX9_debt_66 : decode cX9_debt 66 = .ok (.iload 5, 2) := by decide +kernel
theorem dX9_debt_68 : decode cX9_debt 68 = .ok (.iload_n 1, 1) := by decide +kernel
theorem dX9_debt_69 : decode cX9_debt 69 = .ok (.iastore, 1) := by decide +kernel
theorem dX9_debt_70 : decode cX9_debt 70 = .ok (.aload_n 0, 1) := by decide +kernel
theorem dX9_debt_71 : decode cX9_debt 71 = .ok (.getfield 7, 3) := by decide +kernel
theorem dX9_debt_74 : decode cX9_debt 74 = .ok (.iload 5, 2) := by decide +kernel
theorem dX9_debt_76 : decode cX9_debt 76 = .ok (.iconst 1, 1) := by decide +kernel
theorem dX9_debt_77 : decode cX9_debt 77 = .ok (.iadd, 1) := by decide +kernel
theorem dX9_debt_78 : decode cX9_debt 78 = .ok (.iload_n 2, 1) := by decide +kernel
theorem dX9_debt_79 : decode cX9_debt 79 = .ok (.iastore, 1) := by decide +kernel
theorem dX9_debt_80 : decode cX9_debt 80 = .ok (.aload_n 0, 1) := by decide +kernel
theorem dX9_debt_81 : decode cX9_debt 81 = .ok (.getfield 7, 3) := by decide +kernel
theorem dX9_debt_84 : decode cX9_debt 84 = .ok (.iload 5, 2) := by decide +kernel
theorem dX9_debt_86 : decode cX9_debt 86 = .ok (.iconst 2, 1) := by decide +kernel
theorem dX9_debt_87 : decode cX9_debt 87 = .ok (.iadd, 1) := by decide +kernel
theorem dX9_debt_88 : decode cX9_debt 88 = .ok (.iload_n 3, 1) := by decide +kernel
theorem dX9_debt_89 : decode cX9_debt 89 = .ok (.iastore, 1) := by decide +kernel
theorem dX9_debt_90 : decode cX9_debt 90 = .ok (.aload_n 0, 1) := by decide +kernel
theorem dX9_debt_91 : decode cX9_debt 91 = .ok (.getfield 7, 3) := by decide +kernel
theorem dX9_debt_94 : decode cX9_debt 94 = .ok (.iload 5, 2) := by decide +kernel
theorem dX9_debt_96 : decode cX9_debt 96 = .ok (.iconst 3, 1) := by decide +kernel
theorem dX9_debt_97 : decode cX9_debt 97 = .ok (.iadd, 1) := by decide +kernel
theorem dX9_debt_98 : decode cX9_debt 98 = .ok (.iload 4, 2) := by decide +kernel
theorem dX9_debt_100 : decode cX9_debt 100 = .ok (.iastore, 1) := by decide +kernel
theorem dX9_debt_101 : decode cX9_debt 101 = .ok (.aload_n 0, 1) := by decide +kernel
theorem dX9_debt_102 : decode cX9_debt 102 = .ok (.getfield 7, 3) := by decide +kernel
theorem dX9_debt_105 : decode cX9_debt 105 = .ok (.iload 5, 2) := by decide +kernel
theorem dX9_debt_107 : decode cX9_debt 107 = .ok (.iconst 4, 1) := by decide +kernel
theorem dX9_debt_108 : decode cX9_debt 108 = .ok (.iadd, 1) := by decide +kernel
theorem dX9_debt_109 : decode cX9_debt 109 = .ok (.iconst 0, 1) := by decide +kernel
theorem dX9_debt_110 : decode cX9_debt 110 = .ok (.iastore, 1) := by decide +kernel
theorem dX9_debt_111 : decode cX9_debt 111 = .ok (.aload_n 0, 1) := by decide +kernel
theorem dX9_debt_112 : decode cX9_debt 112 = .ok (.getfield 7, 3) := by decide +kernel
theorem dX9_debt_115 : decode cX9_debt 115 = .ok (.iload 5, 2) := by decide +kernel
theorem dX9_debt_117 : decode cX9_debt 117 = .ok (.iconst 5, 1) := by decide +kernel
theorem dX9_debt_118 : decode cX9_debt 118 = .ok (.iadd, 1) := by decide +kernel
theorem dX9_debt_119 : decode cX9_debt 119 = .ok (.iconst (-1), 1) := by decide +kernel
theorem dX9_debt_120 : decode cX9_debt 120 = .ok (.iastore, 1) := by decide +kernel
theorem dX9_debt_121 : decode cX9_debt 121 = .ok (.aload_n 0, 1) := by decide +kernel
theorem dX9_debt_122 : decode cX9_debt 122 = .ok (.getfield 7, 3) := by decide +kernel
theorem dX9_debt_125 : decode cX9_debt 125 = .ok (.iload 5, 2) := by decide +kernel
theorem dX9_debt_127 : decode cX9_debt 127 = .ok (.bipush 6, 2) := by decide +kernel
theorem dX9_debt_129 : decode cX9_debt 129 = .ok (.iadd, 1) := by decide +kernel
theorem dX9_debt_130 : decode cX9_debt 130 = .ok (.iconst 0, 1) := by decide +kernel
theorem dX9_debt_131 : decode cX9_debt 131 = .ok (.iastore, 1) := by decide +kernel
theorem dX9_debt_132 : decode cX9_debt 132 = .ok (.aload_n 0, 1) := by decide +kernel
theorem dX9_debt_133 : decode cX9_debt 133 = .ok (.getfield 7, 3) := by decide +kernel
theorem dX9_debt_136 : decode cX9_debt 136 = .ok (.iload 5, 2) := by decide +kernel
theorem dX9_debt_138 : decode cX9_debt 138 = .ok (.bipush 7, 2) := by decide +kernel
theorem dX9_debt_140 : decode cX9_debt 140 = .ok (.iadd, 1) := by decide +kernel
theorem dX9_debt_141 : decode cX9_debt 141 = .ok (.iconst 0, 1) := by decide +kernel
theorem dX9_debt_142 : decode cX9_debt 142 = .ok (.iastore, 1) := by decide +kernel
theorem dX9_debt_143 : decode cX9_debt 143 = .ok (.aload_n 0, 1) := by decide +kernel
theorem dX9_debt_144 : decode cX9_debt 144 = .ok (.dup, 1) := by decide +kernel
theorem dX9_debt_145 : decode cX9_debt 145 = .ok (.getfield 87, 3) := by decide +kernel
theorem dX9_debt_148 : decode cX9_debt 148 = .ok (.iconst 1, 1) := by decide +kernel
theorem dX9_debt_149 : decode cX9_debt 149 = .ok (.iadd, 1) := by decide +kernel
theorem dX9_debt_150 : decode cX9_debt 150 = .ok (.putfield 87, 3) := by decide +kernel
theorem dX9_debt_153 : decode cX9_debt 153 = .ok (.aload_n 0, 1) := by decide +kernel
theorem dX9_debt_154 : decode cX9_debt 154 = .ok (.getfield 87, 3) := by decide +kernel
theorem dX9_debt_157 : decode cX9_debt 157 = .ok (.iconst 1, 1) := by decide +kernel
theorem dX9_debt_158 : decode cX9_debt 158 = .ok (.isub, 1) := by decide +kernel
theorem dX9_debt_159 : decode cX9_debt 159 = .ok (.ireturn, 1) := by decide +kernel
theorem dX9_set_0 : decode cX9_set 0 = .ok (.aload_n 0, 1) := by decide +kernel
theorem dX9_set_1 : decode cX9_set 1 = .ok (.iload_n 1, 1) := by decide +kernel
theorem dX9_set_2 : decode cX9_set 2 = .ok (.invokevirtual 102, 3) := by decide +kernel
theorem dX9_set_5 : decode cX9_set 5 = .ok (.ifCond .eq 15, 3) := by decide +kernel
theorem dX9_set_8 : decode cX9_set 8 = .ok (.iload_n 2, 1) := by decide +kernel
theorem dX9_set_9 : decode cX9_set 9 = .ok (.i2l, 1) := by decide +kernel
theorem dX9_set_10 : decode cX9_set 10 = .ok (.lconst 0, 1) := by decide +kernel
theorem dX9_set_11 : decode cX9_set 11 = .ok (.ldc2_w 105, 3) := by decide +kernel
theorem dX9_set_14 : decode cX9_set 14 = .ok (.invokestatic 83, 3) := by decide +kernel
theorem dX9_set_17 : decode cX9_set 17 = .ok (.ifCond .ne 5, 3) := by decide +kernel
theorem dX9_set_20 : decode cX9_set 20 = .ok (.iconst (-1), 1) := by decide +kernel
theorem dX9_set_21 : decode cX9_set 21 = .ok (.ireturn, 1) := by decide +kernel
theorem dX9_set_22 : decode cX9_set 22 = .ok (.iload_n 2, 1) := by decide +kernel
theorem dX9_set_23 : decode cX9_set 23 = .ok (.ifCond .eq 8, 3) := by decide +kernel
theorem dX9_set_26 : decode cX9_set 26 = .ok (.iload_n 2, 1) := by decide +kernel
theorem dX9_set_27 : decode cX9_set 27 = .ok (.iconst 2, 1) := by decide +kernel
theorem dX9_set_28 : decode cX9_set 28 = .ok (.if_icmp .ne 13, 3) := by decide +kernel
theorem dX9_set_31 : decode cX9_set 31 = .ok (.iload_n 3, 1) := by decide +kernel
theorem dX9_set_32 : decode cX9_set 32 = .ok (.i2l, 1) := by decide +kernel
theorem dX9_set_33 : decode cX9_set 33 = .ok (.lconst 0, 1) := by decide +kernel
theorem dX9_set_34 : decode cX9_set 34 = .ok (.lconst 1, 1) := by decide +kernel
theorem dX9_set_35 : decode cX9_set 35 = .ok (.invokestatic 83, 3) := by decide +kernel
theorem dX9_set_38 : decode cX9_set 38 = .ok (.goto 43, 3) := by decide +kernel
theorem dX9_set_41 : decode cX9_set 41 = .ok (.iload_n 2, 1) := by decide +kernel
theorem dX9_set_42 : decode cX9_set 42 = .ok (.iconst 1, 1) := by decide +kernel
theorem dX9_set_43 : decode cX9_set 43 = .ok (.if_icmp .ne 17, 3) := by decide +kernel
theorem dX9_set_46 : decode cX9_set 46 = .ok (.iload_n 3, 1) := by decide +kernel
theorem dX9_set_47 : decode cX9_set 47 = .ok (.i2l, 1) := by decide +kernel
theorem dX9_set_48 : decode cX9_set 48 = .ok (.ldc2_w 107, 3) := by decide +kernel
theorem dX9_set_51 : decode cX9_set 51 = .ok (.ldc2_w 105, 3) := by decide +kernel
theorem dX9_set_54 : decode cX9_set 54 = .ok (.invokestatic 83, 3) := by decide +kernel
theorem dX9_set_57 : decode cX9_set 57 = .ok (.goto 24, 3) := by decide +kernel
theorem dX9_set_60 : decode cX9_set 60 = .ok (.iload_n 2, 1) := by decide +kernel
theorem dX9_set_61 : decode cX9_set 61 = .ok (.iconst 4, 1) := by decide +kernel
theorem dX9_set_62 : decode cX9_set 62 = .ok (.if_icmp .ne 15, 3) := by decide +kernel
theorem dX9_set_65 : decode cX9_set 65 = .ok (.iload_n 3, 1) := by decide +kernel
theorem dX9_set_66 : decode cX9_set 66 = .ok (.i2l, 1) := by decide +kernel
theorem dX9_set_67 : decode cX9_set 67 = .ok (.lconst 0, 1) := by decide +kernel
theorem dX9_set_68 : decode cX9_set 68 = .ok (.ldc2_w 100, 3) := by decide +kernel
theorem dX9_set_71 : decode cX9_set 71 = .ok (.invokestatic 83, 3) := by decide +kernel
theorem dX9_set_74 : decode cX9_set 74 = .ok (.goto 7, 3) := by decide +kernel
theorem dX9_set_77 : decode cX9_set 77 = .ok (.iload_n 3, 1) := by decide +kernel
theorem dX9_set_78 : decode cX9_set 78 = .ok (.invokestatic 96, 3) := by decide +kernel
theorem dX9_set_81 : decode cX9_set 81 = .ok (.istore 4, 2) := by decide +kernel
theorem dX9_set_83 : decode cX9_set 83 = .ok (.iload 4, 2) := by decide +kernel
theorem dX9_set_85 : decode cX9_set 85 = .ok (.ifCond .ne 5, 3) := by decide +kernel
theorem dX9_set_88 : decode cX9_set 88 = .ok (.iconst (-1), 1) := by decide +kernel
theorem dX9_set_89 : decode cX9_set 89 = .ok (.ireturn, 1) := by decide +kernel
theorem dX9_set_90 : decode cX9_set 90 = .ok (.bipush 8, 2) := by decide +kernel
theorem dX9_set_92 : decode cX9_set 92 = .ok (.iload_n 1, 1) := by decide +kernel
theorem dX9_set_93 : decode cX9_set 93 = .ok (.imul, 1) := by decide +kernel
theorem dX9_set_94 : decode cX9_set 94 = .ok (.iload_n 2, 1) := by decide +kernel
theorem dX9_set_95 : decode cX9_set 95 = .ok (.ifCond .ne 7, 3) := by decide +kernel
theorem dX9_set_98 : decode cX9_set 98 = .ok (.iconst 4, 1) := by decide +kernel
theorem dX9_set_99 : decode cX9_set 99 = .ok (.goto 42, 3) := by decide +kernel
theorem dX9_set_102 : decode cX9_set 102 = .ok (.iload_n 2, 1) := by decide +kernel
theorem dX9_set_103 : decode cX9_set 103 = .ok (.iconst 1, 1) := by decide +kernel
theorem dX9_set_104 : decode cX9_set 104 = .ok (.if_icmp .ne 7, 3) := by decide +kernel
theorem dX9_set_107 : decode cX9_set 107 = .ok (.iconst 5, 1) := by decide +kernel
theorem dX9_set_108 : decode cX9_set 108 = .ok (.goto 33, 3) := by decide +kernel
theorem dX9_set_111 : decode cX9_set 111 = .ok (.iload_n 2, 1) := by decide +kernel
theorem dX9_set_112 : decode cX9_set 112 = .ok (.iconst 2, 1) := by decide +kernel
theorem dX9_set_113 : decode cX9_set 113 = .ok (.if_icmp .ne 8, 3) := by decide +kernel
theorem dX9_set_116 : decode cX9_set 116 = .ok (.bipush 6, 2) := by decide +kernel
theorem dX9_set_118 : decode cX9_set 118 = .ok (.goto 23, 3) := by decide +kernel
theorem dX9_set_121 : decode cX9_set 121 = .ok (.iload_n 2, 1) := by decide +kernel
theorem dX9_set_122 : decode cX9_set 122 = .ok (.iconst 3, 1) := by decide +kernel
theorem dX9_set_123 : decode cX9_set 123 = .ok (.if_icmp .ne 8, 3) := by decide +kernel
theorem dX9_set_126 : decode cX9_set 126 = .ok (.bipush 7, 2) := by decide +kernel
theorem dX9_set_128 : decode cX9_set 128 = .ok (.goto 13, 3) := by decide +kernel
theorem dX9_set_131 : decode cX9_set 131 = .ok (.iload_n 2, 1) := by decide +kernel
theorem dX9_set_132 : decode cX9_set 132 = .ok (.iconst 4, 1) := by decide +kernel
theorem dX9_set_133 : decode cX9_set 133 = .ok (.if_icmp .ne 7, 3) := by decide +kernel
theorem dX9_set_136 : decode cX9_set 136 = .ok (.iconst 3, 1) := by decide +kernel
theorem dX9_set_137 : decode cX9_set 137 = .ok (.goto 4, 3) := by decide +kernel
theorem dX9_set_140 : decode cX9_set 140 = .ok (.iconst 2, 1) := by decide +kernel
theorem dX9_set_141 : decode cX9_set 141 = .ok (.iadd, 1) := by decide +kernel
theorem dX9_set_142 : decode cX9_set 142 = .ok (.istore 5, 2) := by decide +kernel
theorem dX9_set_144 : decode cX9_set 144 = .ok (.aload_n 0, 1) := by decide +kernel
theorem dX9_set_145 : decode cX9_set 145 = .ok (.getfield 7, 3) := by decide +kernel
theorem dX9_set_148 : decode cX9_set 148 = .ok (.iload 5, 2) := by decide +kernel
theorem dX9_set_150 : decode cX9_set 150 = .ok (.iaload, 1) := by decide +kernel
theorem dX9_set_151 : decode cX9_set 151 = .ok (.istore 6, 2) := by decide +kernel
theorem dX9_set_153 : decode cX9_set 153 = .ok (.aload_n 0, 1) := by decide +kernel
theorem dX9_set_154 : decode cX9_set 154 = .ok (.getfield 7, 3) := by decide +kernel
theorem dX9_set_157 : decode cX9_set 157 = .ok (.iload 5, 2) := by decide +kernel
theorem dX9_set_159 : decode cX9_set 159 = .ok (.iload_n 3, 1) := by decide +kernel
theorem dX9_set_160 : decode cX9_set 160 = .ok (.iastore, 1) := by decide +kernel
theorem dX9_set_161 : decode cX9_set 161 = .ok (.iload 6, 2) := by decide +kernel
theorem dX9_set_163 : decode cX9_set 163 = .ok (.ireturn, 1) := by decide +kernel
theorem dX9_addPayment_0 : decode cX9_addPayment 0 = .ok (.iconst 4, 1) := by decide +kernel
theorem dX9_addPayment_1 : decode cX9_addPayment 1 = .ok (.aload_n 0, 1) := by decide +kernel
theorem dX9_addPayment_2 : decode cX9_addPayment 2 = .ok (.getfield 91, 3) := by decide +kernel
theorem dX9_addPayment_5 : decode cX9_addPayment 5 = .ok (.imul, 1) := by decide +kernel
theorem dX9_addPayment_6 : decode cX9_addPayment 6 = .ok (.istore_n 3, 1) := by decide +kernel
theorem dX9_addPayment_7 : decode cX9_addPayment 7 = .ok (.aload_n 0, 1) := by decide +kernel
theorem dX9_addPayment_8 : decode cX9_addPayment 8 = .ok (.getfield 13, 3) := by decide +kernel
theorem dX9_addPayment_11 : decode cX9_addPayment 11 = .ok (.iload_n 3, 1) := by decide +kernel
theorem dX9_addPayment_12 : decode cX9_addPayment 12 = .ok (.iload_n 1, 1) := by decide +kernel
theorem dX9_addPayment_13 : decode cX9_addPayment 13 = .ok (.iastore, 1) := by decide +kernel
theorem dX9_addPayment_14 : decode cX9_addPayment 14 = .ok (.aload_n 0, 1) := by decide +kernel
theorem dX9_addPayment_15 : decode cX9_addPayment 15 = .ok (.getfield 13, 3) := by decide +kernel
theorem dX9_addPayment_18 : decode cX9_addPayment 18 = .ok (.iload_n 3, 1) := by decide +kernel
theorem dX9_addPayment_19 : decode cX9_addPayment 19 = .ok (.iconst 1, 1) := by decide +kernel
theorem dX9_addPayment_20 : decode cX9_addPayment 20 = .ok (.iadd, 1) := by decide +kernel
theorem dX9_addPayment_21 : decode cX9_addPayment 21 = .ok (.iload_n 2, 1) := by decide +kernel
theorem dX9_addPayment_22 : decode cX9_addPayment 22 = .ok (.iastore, 1) := by decide +kernel
theorem dX9_addPayment_23 : decode cX9_addPayment 23 = .ok (.aload_n 0, 1) := by decide +kernel
theorem dX9_addPayment_24 : decode cX9_addPayment 24 = .ok (.getfield 13, 3) := by decide +kernel
theorem dX9_addPayment_27 : decode cX9_addPayment 27 = .ok (.iload_n 3, 1) := by decide +kernel
theorem dX9_addPayment_28 : decode cX9_addPayment 28 = .ok (.iconst 2, 1) := by decide +kernel
theorem dX9_addPayment_29 : decode cX9_addPayment 29 = .ok (.iadd, 1) := by decide +kernel
theorem dX9_addPayment_30 : decode cX9_addPayment 30 = .ok (.iconst (-1), 1) := by decide +kernel
theorem dX9_addPayment_31 : decode cX9_addPayment 31 = .ok (.iastore, 1) := by decide +kernel
theorem dX9_addPayment_32 : decode cX9_addPayment 32 = .ok (.aload_n 0, 1) := by decide +kernel
theorem dX9_addPayment_33 : decode cX9_addPayment 33 = .ok (.getfield 13, 3) := by decide +kernel
theorem dX9_addPayment_36 : decode cX9_addPayment 36 = .ok (.iload_n 3, 1) := by decide +kernel
theorem dX9_addPayment_37 : decode cX9_addPayment 37 = .ok (.iconst 3, 1) := by decide +kernel
theorem dX9_addPayment_38 : decode cX9_addPayment 38 = .ok (.iadd, 1) := by decide +kernel
theorem dX9_addPayment_39 : decode cX9_addPayment 39 = .ok (.iconst (-1), 1) := by decide +kernel
theorem dX9_addPayment_40 : decode cX9_addPayment 40 = .ok (.iastore, 1) := by decide +kernel
theorem dX9_addPayment_41 : decode cX9_addPayment 41 = .ok (.aload_n 0, 1) := by decide +kernel
theorem dX9_addPayment_42 : decode cX9_addPayment 42 = .ok (.dup, 1) := by decide +kernel
theorem dX9_addPayment_43 : decode cX9_addPayment 43 = .ok (.getfield 91, 3) := by decide +kernel
theorem dX9_addPayment_46 : decode cX9_addPayment 46 = .ok (.iconst 1, 1) := by decide +kernel
theorem dX9_addPayment_47 : decode cX9_addPayment 47 = .ok (.iadd, 1) := by decide +kernel
theorem dX9_addPayment_48 : decode cX9_addPayment 48 = .ok (.putfield 91, 3) := by decide +kernel
theorem dX9_addPayment_51 : decode cX9_addPayment 51 = .ok (.return_, 1) := by decide +kernel
theorem dX9_pay_0 : decode cX9_pay 0 = .ok (.iload_n 1, 1) := by decide +kernel
theorem dX9_pay_1 : decode cX9_pay 1 = .ok (.invokestatic 96, 3) := by decide +kernel
theorem dX9_pay_4 : decode cX9_pay 4 = .ok (.ifCond .eq 15, 3) := by decide +kernel
theorem dX9_pay_7 : decode cX9_pay 7 = .ok (.iload_n 2, 1) := by decide +kernel
theorem dX9_pay_8 : decode cX9_pay 8 = .ok (.i2l, 1) := by decide +kernel
theorem dX9_pay_9 : decode cX9_pay 9 = .ok (.lconst 1, 1) := by decide +kernel
theorem dX9_pay_10 : decode cX9_pay 10 = .ok (.ldc2_w 94, 3) := by decide +kernel
theorem dX9_pay_13 : decode cX9_pay 13 = .ok (.invokestatic 83, 3) := by decide +kernel
theorem dX9_pay_16 : decode cX9_pay 16 = .ok (.ifCond .ne 5, 3) := by decide +kernel
theorem dX9_pay_19 : decode cX9_pay 19 = .ok (.iconst (-1), 1) := by decide +kernel
theorem dX9_pay_20 : decode cX9_pay 20 = .ok (.ireturn, 1) := by decide +kernel
theorem dX9_pay_21 : decode cX9_pay 21 = .ok (.aload_n 0, 1) := by decide +kernel
theorem dX9_pay_22 : decode cX9_pay 22 = .ok (.getfield 91, 3) := by decide +kernel
theorem dX9_pay_25 : decode cX9_pay 25 = .ok (.bipush 12, 2) := by decide +kernel
theorem dX9_pay_27 : decode cX9_pay 27 = .ok (.if_icmp .ne 6, 3) := by decide +kernel
theorem dX9_pay_30 : decode cX9_pay 30 = .ok (.bipush (-3), 2) := by decide +kernel
theorem dX9_pay_32 : decode cX9_pay 32 = .ok (.ireturn, 1) := by decide +kernel
theorem dX9_pay_33 : decode cX9_pay 33 = .ok (.aload_n 0, 1) := by decide +kernel
theorem dX9_pay_34 : decode cX9_pay 34 = .ok (.iload_n 1, 1) := by decide +kernel
theorem dX9_pay_35 : decode cX9_pay 35 = .ok (.iload_n 2, 1) := by decide +kernel
theorem dX9_pay_36 : decode cX9_pay 36 = .ok (.invokevirtual 109, 3) := by decide +kernel
theorem dX9_pay_39 : decode cX9_pay 39 = .ok (.aload_n 0, 1) := by decide +kernel
theorem dX9_pay_40 : decode cX9_pay 40 = .ok (.getfield 91, 3) := by decide +kernel
theorem dX9_pay_43 : decode cX9_pay 43 = .ok (.iconst 1, 1) := by decide +kernel
theorem dX9_pay_44 : decode cX9_pay 44 = .ok (.isub, 1) := by decide +kernel
theorem dX9_pay_45 : decode cX9_pay 45 = .ok (.ireturn, 1) := by decide +kernel
theorem dX9_word_0 : decode cX9_word 0 = .ok (.aload_n 0, 1) := by decide +kernel
theorem dX9_word_1 : decode cX9_word 1 = .ok (.iload_n 1, 1) := by decide +kernel
theorem dX9_word_2 : decode cX9_word 2 = .ok (.invokevirtual 113, 3) := by decide +kernel
theorem dX9_word_5 : decode cX9_word 5 = .ok (.ifCond .eq 31, 3) := by decide +kernel
theorem dX9_word_8 : decode cX9_word 8 = .ok (.iload_n 2, 1) := by decide +kernel
theorem dX9_word_9 : decode cX9_word 9 = .ok (.i2l, 1) := by decide +kernel
theorem dX9_word_10 : decode cX9_word 10 = .ok (.lconst 0, 1) := by decide +kernel
theorem dX9_word_11 : decode cX9_word 11 = .ok (.lconst 1, 1) := by decide +kernel
theorem dX9_word_12 : decode cX9_word 12 = .ok (.invokestatic 83, 3) := by decide +kernel
theorem dX9_word_15 : decode cX9_word 15 = .ok (.ifCond .eq 21, 3) := by decide +kernel
theorem dX9_word_18 : decode cX9_word 18 = .ok (.iload_n 3, 1) := by decide +kernel
theorem dX9_word_19 : decode cX9_word 19 = .ok (.i2l, 1) := by decide +kernel
theorem dX9_word_20 : decode cX9_word 20 = .ok (.ldc2_w 107, 3) := by decide +kernel
theorem dX9_word_23 : decode cX9_word 23 = .ok (.aload_n 0, 1) := by decide +kernel
theorem dX9_word_24 : decode cX9_word 24 = .ok (.getfield 87, 3) := by decide +kernel
theorem dX9_word_27 : decode cX9_word 27 = .ok (.iconst 1, 1) := by decide +kernel
theorem dX9_word_28 : decode cX9_word 28 = .ok (.isub, 1) := by decide +kernel
theorem dX9_word_29 : decode cX9_word 29 = .ok (.i2l, 1) := by decide +kernel
theorem dX9_word_30 : decode cX9_word 30 = .ok (.invokestatic 83, 3) := by decide +kernel
theorem dX9_word_33 : decode cX9_word 33 = .ok (.ifCond .ne 6, 3) := by decide +kernel
theorem dX9_word_36 : decode cX9_word 36 = .ok (.bipush (-101), 2) := by decide +kernel
theorem dX9_word_38 : decode cX9_word 38 = .ok (.ireturn, 1) := by decide +kernel
theorem dX9_word_39 : decode cX9_word 39 = .ok (.aload_n 0, 1) := by decide +kernel
theorem dX9_word_40 : decode cX9_word 40 = .ok (.getfield 13, 3) := by decide +kernel
theorem dX9_word_43 : decode cX9_word 43 = .ok (.iconst 4, 1) := by decide +kernel
theorem dX9_word_44 : decode cX9_word 44 = .ok (.iload_n 1, 1) := by decide +kernel
theorem dX9_word_45 : decode cX9_word 45 = .ok (.imul, 1) := by decide +kernel
theorem dX9_word_46 : decode cX9_word 46 = .ok (.iconst 2, 1) := by decide +kernel
theorem dX9_word_47 : decode cX9_word 47 = .ok (.iadd, 1) := by decide +kernel
theorem dX9_word_48 : decode cX9_word 48 = .ok (.iload_n 2, 1) := by decide +kernel
theorem dX9_word_49 : decode cX9_word 49 = .ok (.iadd, 1) := by decide +kernel
theorem dX9_word_50 : decode cX9_word 50 = .ok (.iaload, 1) := by decide +kernel
theorem dX9_word_51 : decode cX9_word 51 = .ok (.istore 4, 2) := by decide +kernel
theorem dX9_word_53 : decode cX9_word 53 = .ok (.aload_n 0, 1) := by decide +kernel
theorem dX9_word_54 : decode cX9_word 54 = .ok (.getfield 13, 3) := by decide +kernel
theorem dX9_word_57 : decode cX9_word 57 = .ok (.iconst 4, 1) := by decide +kernel
theorem dX9_word_58 : decode cX9_word 58 = .ok (.iload_n 1, 1) := by decide +kernel
theorem dX9_word_59 : decode cX9_word 59 = .ok (.imul, 1) := by decide +kernel
theorem dX9_word_60 : decode cX9_word 60 = .ok (.iconst 2, 1) := by decide +kernel
theorem dX9_word_61 : decode cX9_word 61 = .ok (.iadd, 1) := by decide +kernel
theorem dX9_word_62 : decode cX9_word 62 = .ok (.iload_n 2, 1) := by decide +kernel
theorem dX9_word_63 : decode cX9_word 63 = .ok (.iadd, 1) := by decide +kernel
theorem dX9_word_64 : decode cX9_word 64 = .ok (.iload_n 3, 1) := by decide +kernel
theorem dX9_word_65 : decode cX9_word 65 = .ok (.iastore, 1) := by decide +kernel
theorem dX9_word_66 : decode cX9_word 66 = .ok (.iload 4, 2) := by decide +kernel
theorem dX9_word_68 : decode cX9_word 68 = .ok (.ireturn, 1) := by decide +kernel
theorem dX9_move_0 : decode cX9_move 0 = .ok (.aload_n 0, 1) := by decide +kernel
theorem dX9_move_1 : decode cX9_move 1 = .ok (.iload_n 1, 1) := by decide +kernel
theorem dX9_move_2 : decode cX9_move 2 = .ok (.invokevirtual 113, 3) := by decide +kernel
theorem dX9_move_5 : decode cX9_move 5 = .ok (.ifCond .eq 10, 3) := by decide +kernel
theorem dX9_move_8 : decode cX9_move 8 = .ok (.iload_n 2, 1) := by decide +kernel
theorem dX9_move_9 : decode cX9_move 9 = .ok (.invokestatic 96, 3) := by decide +kernel
theorem dX9_move_12 : decode cX9_move 12 = .ok (.ifCond .ne 5, 3) := by decide +kernel
theorem dX9_move_15 : decode cX9_move 15 = .ok (.iconst (-1), 1) := by decide +kernel
theorem dX9_move_16 : decode cX9_move 16 = .ok (.ireturn, 1) := by decide +kernel
theorem dX9_move_17 : decode cX9_move 17 = .ok (.aload_n 0, 1) := by decide +kernel
theorem dX9_move_18 : decode cX9_move 18 = .ok (.getfield 13, 3) := by decide +kernel
theorem dX9_move_21 : decode cX9_move 21 = .ok (.iconst 4, 1) := by decide +kernel
theorem dX9_move_22 : decode cX9_move 22 = .ok (.iload_n 1, 1) := by decide +kernel
theorem dX9_move_23 : decode cX9_move 23 = .ok (.imul, 1) := by decide +kernel
theorem dX9_move_24 : decode cX9_move 24 = .ok (.iaload, 1) := by decide +kernel
theorem dX9_move_25 : decode cX9_move 25 = .ok (.istore_n 3, 1) := by decide +kernel
theorem dX9_move_26 : decode cX9_move 26 = .ok (.aload_n 0, 1) := by decide +kernel
theorem dX9_move_27 : decode cX9_move 27 = .ok (.getfield 13, 3) := by decide +kernel
theorem dX9_move_30 : decode cX9_move 30 = .ok (.iconst 4, 1) := by decide +kernel
theorem dX9_move_31 : decode cX9_move 31 = .ok (.iload_n 1, 1) := by decide +kernel
theorem dX9_move_32 : decode cX9_move 32 = .ok (.imul, 1) := by decide +kernel
theorem dX9_move_33 : decode cX9_move 33 = .ok (.iload_n 2, 1) := by decide +kernel
theorem dX9_move_34 : decode cX9_move 34 = .ok (.iastore, 1) := by decide +kernel
theorem dX9_move_35 : decode cX9_move 35 = .ok (.iload_n 3, 1) := by decide +kernel
theorem dX9_move_36 : decode cX9_move 36 = .ok (.ireturn, 1) := by decide +kernel
theorem dX9_count_0 : decode cX9_count 0 = .ok (.iload_n 1, 1) := by decide +kernel
theorem dX9_count_1 : decode cX9_count 1 = .ok (.i2l, 1) := by decide +kernel
theorem dX9_count_2 : decode cX9_count 2 = .ok (.lconst 0, 1) := by decide +kernel
theorem dX9_count_3 : decode cX9_count 3 = .ok (.ldc2_w 116, 3) := by decide +kernel
theorem dX9_count_6 : decode cX9_count 6 = .ok (.invokestatic 83, 3) := by decide +kernel
theorem dX9_count_9 : decode cX9_count 9 = .ok (.ifCond .ne 5, 3) := by decide +kernel
theorem dX9_count_12 : decode cX9_count 12 = .ok (.iconst (-1), 1) := by decide +kernel
theorem dX9_count_13 : decode cX9_count 13 = .ok (.ireturn, 1) := by decide +kernel
theorem dX9_count_14 : decode cX9_count 14 = .ok (.iconst 0, 1) := by decide +kernel
theorem dX9_count_15 : decode cX9_count 15 = .ok (.istore_n 2, 1) := by decide +kernel
theorem dX9_count_16 : decode cX9_count 16 = .ok (.iconst 0, 1) := by decide +kernel
theorem dX9_count_17 : decode cX9_count 17 = .ok (.istore_n 3, 1) := by decide +kernel
theorem dX9_count_18 : decode cX9_count 18 = .ok (.iload_n 3, 1) := by decide +kernel
theorem dX9_count_19 : decode cX9_count 19 = .ok (.aload_n 0, 1) := by decide +kernel
theorem dX9_count_20 : decode cX9_count 20 = .ok (.getfield 87, 3) := by decide +kernel
theorem dX9_count_23 : decode cX9_count 23 = .ok (.if_icmp .ge 51, 3) := by decide +kernel
theorem dX9_count_26 : decode cX9_count 26 = .ok (.iload_n 2, 1) := by decide +kernel
theorem dX9_count_27 : decode cX9_count 27 = .ok (.iload_n 1, 1) := by decide +kernel
theorem dX9_count_28 : decode cX9_count 28 = .ok (.iconst 2, 1) := by decide +kernel
theorem dX9_count_29 : decode cX9_count 29 = .ok (.if_icmp .ne 25, 3) := by decide +kernel
theorem dX9_count_32 : decode cX9_count 32 = .ok (.aload_n 0, 1) := by decide +kernel
theorem dX9_count_33 : decode cX9_count 33 = .ok (.getfield 7, 3) := by decide +kernel
theorem dX9_count_36 : decode cX9_count 36 = .ok (.bipush 8, 2) := by decide +kernel
theorem dX9_count_38 : decode cX9_count 38 = .ok (.iload_n 3, 1) := by decide +kernel
theorem dX9_count_39 : decode cX9_count 39 = .ok (.imul, 1) := by decide +kernel
theorem dX9_count_40 : decode cX9_count 40 = .ok (.iconst 5, 1) := by decide +kernel
theorem dX9_count_41 : decode cX9_count 41 = .ok (.iadd, 1) := by decide +kernel
theorem dX9_count_42 : decode cX9_count 42 = .ok (.iaload, 1) := by decide +kernel
theorem dX9_count_43 : decode cX9_count 43 = .ok (.ifCond .lt 7, 3) := by decide +kernel
theorem dX9_count_46 : decode cX9_count 46 = .ok (.iconst 1, 1) := by decide +kernel
theorem dX9_count_47 : decode cX9_count 47 = .ok (.goto 19, 3) := by decide +kernel
theorem dX9_count_50 : decode cX9_count 50 = .ok (.iconst 0, 1) := by decide +kernel
theorem dX9_count_51 : decode cX9_count 51 = .ok (.goto 15, 3) := by decide +kernel
theorem dX9_count_54 : decode cX9_count 54 = .ok (.aload_n 0, 1) := by decide +kernel
theorem dX9_count_55 : decode cX9_count 55 = .ok (.getfield 7, 3) := by decide +kernel
theorem dX9_count_58 : decode cX9_count 58 = .ok (.bipush 8, 2) := by decide +kernel
theorem dX9_count_60 : decode cX9_count 60 = .ok (.iload_n 3, 1) := by decide +kernel
theorem dX9_count_61 : decode cX9_count 61 = .ok (.imul, 1) := by decide +kernel
theorem dX9_count_62 : decode cX9_count 62 = .ok (.bipush 6, 2) := by decide +kernel
theorem dX9_count_64 : decode cX9_count 64 = .ok (.iadd, 1) := by decide +kernel
theorem dX9_count_65 : decode cX9_count 65 = .ok (.iaload, 1) := by decide +kernel
theorem dX9_count_66 : decode cX9_count 66 = .ok (.iadd, 1) := by decide +kernel
theorem dX9_count_67 : decode cX9_count 67 = .ok (.istore_n 2, 1) := by decide +kernel
theorem dX9_count_68 : decode cX9_count 68 = .ok (.iinc 3 1, 3) := by decide +kernel
theorem dX9_count_71 : decode cX9_count 71 = .ok (.goto (-53), 3) := by decide +kernel
theorem dX9_count_74 : decode cX9_count 74 = .ok (.iload_n 1, 1) := by decide +kernel
theorem dX9_count_75 : decode cX9_count 75 = .ok (.ifCond .ne 10, 3) := by decide +kernel
theorem dX9_count_78 : decode cX9_count 78 = .ok (.aload_n 0, 1) := by decide +kernel
theorem dX9_count_79 : decode cX9_count 79 = .ok (.getfield 87, 3) := by decide +kernel
theorem dX9_count_82 : decode cX9_count 82 = .ok (.goto 16, 3) := by decide +kernel
theorem dX9_count_85 : decode cX9_count 85 = .ok (.iload_n 1, 1) := by decide +kernel
theorem dX9_count_86 : decode cX9_count 86 = .ok (.iconst 1, 1) := by decide +kernel
theorem dX9_count_87 : decode cX9_count 87 = .ok (.if_icmp .ne 10, 3) := by decide +kernel
theorem dX9_count_90 : decode cX9_count 90 = .ok (.aload_n 0, 1) := by decide +kernel
theorem dX9_count_91 : decode cX9_count 91 = .ok (.getfield 91, 3) := by decide +kernel
theorem dX9_count_94 : decode cX9_count 94 = .ok (.goto 4, 3) := by decide +kernel
theorem dX9_count_97 : decode cX9_count 97 = .ok (.iload_n 2, 1) := by decide +kernel
theorem dX9_count_98 : decode cX9_count 98 = .ok (.ireturn, 1) := by decide +kernel
theorem dX9_type_0 : decode cX9_type 0 = .ok (.iload_n 3, 1) := by decide +kernel
theorem dX9_type_1 : decode cX9_type 1 = .ok (.i2l, 1) := by decide +kernel
theorem dX9_type_2 : decode cX9_type 2 = .ok (.lconst 1, 1) := by decide +kernel
theorem dX9_type_3 : decode cX9_type 3 = .ok (.ldc2_w 118, 3) := by decide +kernel
theorem dX9_type_6 : decode cX9_type 6 = .ok (.invokestatic 83, 3) := by decide +kernel
theorem dX9_type_9 : decode cX9_type 9 = .ok (.ifCond .ne 5, 3) := by decide +kernel
theorem dX9_type_12 : decode cX9_type 12 = .ok (.iconst (-1), 1) := by decide +kernel
theorem dX9_type_13 : decode cX9_type 13 = .ok (.ireturn, 1) := by decide +kernel
theorem dX9_type_14 : decode cX9_type 14 = .ok (.iload_n 3, 1) := by decide +kernel
theorem dX9_type_15 : decode cX9_type 15 = .ok (.iconst 1, 1) := by decide +kernel
theorem dX9_type_16 : decode cX9_type 16 = .ok (.isub, 1) := by decide +kernel
theorem dX9_type_17 : decode cX9_type 17 = .ok (.istore 4, 2) := by decide +kernel
theorem dX9_type_19 : decode cX9_type 19 = .ok (.iload 4, 2) := by decide +kernel
theorem dX9_type_21 : decode cX9_type 21 = .ok (.ifCond .lt 34, 3) := by decide +kernel
theorem dX9_type_24 : decode cX9_type 24 = .ok (.lload_n 1, 1) := by decide +kernel
theorem dX9_type_25 : decode cX9_type 25 = .ok (.bipush 8, 2) := by decide +kernel
theorem dX9_type_27 : decode cX9_type 27 = .ok (.iload 4, 2) := by decide +kernel
theorem dX9_type_29 : decode cX9_type 29 = .ok (.imul, 1) := by decide +kernel
theorem dX9_type_30 : decode cX9_type 30 = .ok (.lshr, 1) := by decide +kernel
theorem dX9_type_31 : decode cX9_type 31 = .ok (.ldc2_w 120, 3) := by decide +kernel
theorem dX9_type_34 : decode cX9_type 34 = .ok (.land, 1) := by decide +kernel
theorem dX9_type_35 : decode cX9_type 35 = .ok (.ldc2_w 122, 3) := by decide +kernel
theorem dX9_type_38 : decode cX9_type 38 = .ok (.ldc2_w 124, 3) := by decide +kernel
theorem dX9_type_41 : decode cX9_type 41 = .ok (.invokestatic 83, 3) := by decide +kernel
theorem dX9_type_44 : decode cX9_type 44 = .ok (.ifCond .ne 5, 3) := by decide +kernel
theorem dX9_type_47 : decode cX9_type 47 = .ok (.iconst (-1), 1) := by decide +kernel
theorem dX9_type_48 : decode cX9_type 48 = .ok (.ireturn, 1) := by decide +kernel
theorem dX9_type_49 : decode cX9_type 49 = .ok (.iinc 4 (-1), 3) := by decide +kernel
theorem dX9_type_52 : decode cX9_type 52 = .ok (.goto (-33), 3) := by decide +kernel
theorem dX9_type_55 : decode cX9_type 55 = .ok (.aload_n 0, 1) := by decide +kernel
theorem dX9_type_56 : decode cX9_type 56 = .ok (.getfield 126, 3) := by decide +kernel
theorem dX9_type_59 : decode cX9_type 59 = .ok (.iload_n 3, 1) := by decide +kernel
theorem dX9_type_60 : decode cX9_type 60 = .ok (.iadd, 1) := by decide +kernel
theorem dX9_type_61 : decode cX9_type 61 = .ok (.bipush 40, 2) := by decide +kernel
theorem dX9_type_63 : decode cX9_type 63 = .ok (.if_icmp .le 6, 3) := by decide +kernel
theorem dX9_type_66 : decode cX9_type 66 = .ok (.bipush (-3), 2) := by decide +kernel
theorem dX9_type_68 : decode cX9_type 68 = .ok (.ireturn, 1) := by decide +kernel
theorem dX9_type_69 : decode cX9_type 69 = .ok (.iload_n 3, 1) := by decide +kernel
theorem dX9_type_70 : decode cX9_type 70 = .ok (.iconst 1, 1) := by decide +kernel
theorem dX9_type_71 : decode cX9_type 71 = .ok (.isub, 1) := by decide +kernel
theorem dX9_type_72 : decode cX9_type 72 = .ok (.istore 4, 2) := by decide +kernel
theorem dX9_type_74 : decode cX9_type 74 = .ok (.iload 4, 2) := by decide +kernel
theorem dX9_type_76 : decode cX9_type 76 = .ok (.ifCond .lt 40, 3) := by decide +kernel
theorem dX9_type_79 : decode cX9_type 79 = .ok (.aload_n 0, 1) := by decide +kernel
theorem dX9_type_80 : decode cX9_type 80 = .ok (.getfield 16, 3) := by decide +kernel
theorem dX9_type_83 : decode cX9_type 83 = .ok (.aload_n 0, 1) := by decide +kernel
theorem dX9_type_84 : decode cX9_type 84 = .ok (.getfield 126, 3) := by decide +kernel
theorem dX9_type_87 : decode cX9_type 87 = .ok (.lload_n 1, 1) := by decide +kernel
theorem dX9_type_88 : decode cX9_type 88 = .ok (.bipush 8, 2) := by decide +kernel
theorem dX9_type_90 : decode cX9_type 90 = .ok (.iload 4, 2) := by decide +kernel
theorem dX9_type_92 : decode cX9_type 92 = .ok (.imul, 1) := by decide +kernel
theorem dX9_type_93 : decode cX9_type 93 = .ok (.lshr, 1) := by decide +kernel
theorem dX9_type_94 : decode cX9_type 94 = .ok (.ldc2_w 120, 3) := by decide +kernel
theorem dX9_type_97 : decode cX9_type 97 = .ok (.land, 1) := by decide +kernel
theorem dX9_type_98 : decode cX9_type 98 = .ok (.l2i, 1) := by decide +kernel
theorem dX9_type_99 : decode cX9_type 99 = .ok (.iastore, 1) := by decide +kernel
theorem dX9_type_100 : decode cX9_type 100 = .ok (.aload_n 0, 1) := by decide +kernel
theorem dX9_type_101 : decode cX9_type 101 = .ok (.dup, 1) := by decide +kernel
theorem dX9_type_102 : decode cX9_type 102 = .ok (.getfield 126, 3) := by decide +kernel
theorem dX9_type_105 : decode cX9_type 105 = .ok (.iconst 1, 1) := by decide +kernel
theorem dX9_type_106 : decode cX9_type 106 = .ok (.iadd, 1) := by decide +kernel
theorem dX9_type_107 : decode cX9_type 107 = .ok (.putfield 126, 3) := by decide +kernel
theorem dX9_type_110 : decode cX9_type 110 = .ok (.iinc 4 (-1), 3) := by decide +kernel
theorem dX9_type_113 : decode cX9_type 113 = .ok (.goto (-39), 3) := by decide +kernel
theorem dX9_type_116 : decode cX9_type 116 = .ok (.aload_n 0, 1) := by decide +kernel
theorem dX9_type_117 : decode cX9_type 117 = .ok (.getfield 126, 3) := by decide +kernel
theorem dX9_type_120 : decode cX9_type 120 = .ok (.ireturn, 1) := by decide +kernel
theorem dX9_isLetter_0 : decode cX9_isLetter 0 = .ok (.iload_n 0, 1) := by decide +kernel
theorem dX9_isLetter_1 : decode cX9_isLetter 1 = .ok (.bipush 99, 2) := by decide +kernel
theorem dX9_isLetter_3 : decode cX9_isLetter 3 = .ok (.if_icmp .eq 57, 3) := by decide +kernel
theorem dX9_isLetter_6 : decode cX9_isLetter 6 = .ok (.iload_n 0, 1) := by decide +kernel
theorem dX9_isLetter_7 : decode cX9_isLetter 7 = .ok (.bipush 116, 2) := by decide +kernel
theorem dX9_isLetter_9 : decode cX9_isLetter 9 = .ok (.if_icmp .eq 51, 3) := by decide +kernel
theorem dX9_isLetter_12 : decode cX9_isLetter 12 = .ok (.iload_n 0, 1) := by decide +kernel
theorem dX9_isLetter_13 : decode cX9_isLetter 13 = .ok (.bipush 115, 2) := by decide +kernel
theorem dX9_isLetter_15 : decode cX9_isLetter 15 = .ok (.if_icmp .eq 45, 3) := by decide +kernel
theorem dX9_isLetter_18 : decode cX9_isLetter 18 = .ok (.iload_n 0, 1) := by decide +kernel
theorem dX9_isLetter_19 : decode cX9_isLetter 19 = .ok (.bipush 120, 2) := by decide +kernel
theorem dX9_isLetter_21 : decode cX9_isLetter 21 = .ok (.if_icmp .eq 39, 3) := by decide +kernel
theorem dX9_isLetter_24 : decode cX9_isLetter 24 = .ok (.iload_n 0, 1) := by decide +kernel
theorem dX9_isLetter_25 : decode cX9_isLetter 25 = .ok (.bipush 112, 2) := by decide +kernel
theorem dX9_isLetter_27 : decode cX9_isLetter 27 = .ok (.if_icmp .eq 33, 3) := by decide +kernel
theorem dX9_isLetter_30 : decode cX9_isLetter 30 = .ok (.iload_n 0, 1) := by decide +kernel
theorem dX9_isLetter_31 : decode cX9_isLetter 31 = .ok (.bipush 100, 2) := by decide +kernel
theorem dX9_isLetter_33 : decode cX9_isLetter 33 = .ok (.if_icmp .eq 27, 3) := by decide +kernel
theorem dX9_isLetter_36 : decode cX9_isLetter 36 = .ok (.iload_n 0, 1) := by decide +kernel
theorem dX9_isLetter_37 : decode cX9_isLetter 37 = .ok (.bipush 104, 2) := by decide +kernel
theorem dX9_isLetter_39 : decode cX9_isLetter 39 = .ok (.if_icmp .eq 21, 3) := by decide +kernel
theorem dX9_isLetter_42 : decode cX9_isLetter 42 = .ok (.iload_n 0, 1) := by decide +kernel
theorem dX9_isLetter_43 : decode cX9_isLetter 43 = .ok (.bipush 117, 2) := by decide +kernel
theorem dX9_isLetter_45 : decode cX9_isLetter 45 = .ok (.if_icmp .eq 15, 3) := by decide +kernel
theorem dX9_isLetter_48 : decode cX9_isLetter 48 = .ok (.iload_n 0, 1) := by decide +kernel
theorem dX9_isLetter_49 : decode cX9_isLetter 49 = .ok (.bipush 111, 2) := by decide +kernel
theorem dX9_isLetter_51 : decode cX9_isLetter 51 = .ok (.if_icmp .eq 9, 3) := by decide +kernel
theorem dX9_isLetter_54 : decode cX9_isLetter 54 = .ok (.iload_n 0, 1) := by decide +kernel
theorem dX9_isLetter_55 : decode cX9_isLetter 55 = .ok (.bipush 108, 2) := by decide +kernel
theorem dX9_isLetter_57 : decode cX9_isLetter 57 = .ok (.if_icmp .ne 7, 3) := by decide +kernel
theorem dX9_isLetter_60 : decode cX9_isLetter 60 = .ok (.iconst 1, 1) := by decide +kernel
theorem dX9_isLetter_61 : decode cX9_isLetter 61 = .ok (.goto 4, 3) := by decide +kernel
theorem dX9_isLetter_64 : decode cX9_isLetter 64 = .ok (.iconst 0, 1) := by decide +kernel
theorem dX9_isLetter_65 : decode cX9_isLetter 65 = .ok (.ireturn, 1) := by decide +kernel
theorem dX9_law_0 : decode cX9_law 0 = .ok (.iload_n 1, 1) := by decide +kernel
theorem dX9_law_1 : decode cX9_law 1 = .ok (.invokestatic 129, 3) := by decide +kernel
theorem dX9_law_4 : decode cX9_law 4 = .ok (.ifCond .ne 5, 3) := by decide +kernel
theorem dX9_law_7 : decode cX9_law 7 = .ok (.iconst (-1), 1) := by decide +kernel
theorem dX9_law_8 : decode cX9_law 8 = .ok (.ireturn, 1) := by decide +kernel
theorem dX9_law_9 : decode cX9_law 9 = .ok (.iconst 0, 1) := by decide +kernel
theorem dX9_law_10 : decode cX9_law 10 = .ok (.istore_n 2, 1) := by decide +kernel
theorem dX9_law_11 : decode cX9_law 11 = .ok (.iconst (-1), 1) := by decide +kernel
theorem dX9_law_12 : decode cX9_law 12 = .ok (.istore_n 3, 1) := by decide +kernel
theorem dX9_law_13 : decode cX9_law 13 = .ok (.iconst 0, 1) := by decide +kernel
theorem dX9_law_14 : decode cX9_law 14 = .ok (.istore 4, 2) := by decide +kernel
theorem dX9_law_16 : decode cX9_law 16 = .ok (.iload 4, 2) := by decide +kernel
theorem dX9_law_18 : decode cX9_law 18 = .ok (.aload_n 0, 1) := by decide +kernel
theorem dX9_law_19 : decode cX9_law 19 = .ok (.getfield 126, 3) := by decide +kernel
theorem dX9_law_22 : decode cX9_law 22 = .ok (.if_icmp .ge 122, 3) := by decide +kernel
theorem dX9_law_25 : decode cX9_law 25 = .ok (.iload_n 3, 1) := by decide +kernel
theorem dX9_law_26 : decode cX9_law 26 = .ok (.ifCond .ge 118, 3) := by decide +kernel
theorem dX9_law_29 : decode cX9_law 29 = .ok (.aload_n 0, 1) := by decide +kernel
theorem dX9_law_30 : decode cX9_law 30 = .ok (.getfield 16, 3) := by decide +kernel
theorem dX9_law_33 : decode cX9_law 33 = .ok (.iload 4, 2) := by decide +kernel
theorem dX9_law_35 : decode cX9_law 35 = .ok (.iaload, 1) := by decide +kernel
theorem dX9_law_36 : decode cX9_law 36 = .ok (.invokestatic 132, 3) := by decide +kernel
theorem dX9_law_39 : decode cX9_law 39 = .ok (.ifCond .eq 13, 3) := by decide +kernel
theorem dX9_law_42 : decode cX9_law 42 = .ok (.iload_n 2, 1) := by decide +kernel
theorem dX9_law_43 : decode cX9_law 43 = .ok (.bipush 12, 2) := by decide +kernel
theorem dX9_law_45 : decode cX9_law 45 = .ok (.if_icmp .ge 7, 3) := by decide +kernel
theorem dX9_law_48 : decode cX9_law 48 = .ok (.iconst 1, 1) := by decide +kernel
theorem dX9_law_49 : decode cX9_law 49 = .ok (.goto 4, 3) := by decide +kernel
theorem dX9_law_52 : decode cX9_law 52 = .ok (.iconst 0, 1) := by decide +kernel
theorem dX9_law_53 : decode cX9_law 53 = .ok (.istore 5, 2) := by decide +kernel
theorem dX9_law_55 : decode cX9_law 55 = .ok (.iconst 0, 1) := by decide +kernel
theorem dX9_law_56 : decode cX9_law 56 = .ok (.istore 6, 2) := by decide +kernel
theorem dX9_law_58 : decode cX9_law 58 = .ok (.iload 6, 2) := by decide +kernel
theorem dX9_law_60 : decode cX9_law 60 = .ok (.iload_n 2, 1) := by decide +kernel
theorem dX9_law_61 : decode cX9_law 61 = .ok (.if_icmp .ge 38, 3) := by decide +kernel
theorem dX9_law_64 : decode cX9_law 64 = .ok (.iload 5, 2) := by decide +kernel
theorem dX9_law_66 : decode cX9_law 66 = .ok (.ifCond .eq 24, 3) := by decide +kernel
theorem dX9_law_69 : decode cX9_law 69 = .ok (.aload_n 0, 1) := by decide +kernel
theorem dX9_law_70 : decode cX9_law 70 = .ok (.getfield 25, 3) := by decide +kernel
theorem dX9_law_73 : decode cX9_law 73 = .ok (.iload 6, 2) := by decide +kernel
theorem dX9_law_75 : decode cX9_law 75 = .ok (.iaload, 1) := by decide +kernel
theorem dX9_law_76 : decode cX9_law 76 = .ok (.aload_n 0, 1) := by decide +kernel
theorem dX9_law_77 : decode cX9_law 77 = .ok (.getfield 16, 3) := by decide +kernel
theorem dX9_law_80 : decode cX9_law 80 = .ok (.iload 4, 2) := by decide +kernel
theorem dX9_law_82 : decode cX9_law 82 = .ok (.iaload, 1) := by decide +kernel
theorem dX9_law_83 : decode cX9_law 83 = .ok (.if_icmp .eq 7, 3) := by decide +kernel
theorem dX9_law_86 : decode cX9_law 86 = .ok (.iconst 1, 1) := by decide +kernel
theorem dX9_law_87 : decode cX9_law 87 = .ok (.goto 4, 3) := by decide +kernel
theorem dX9_law_90 : decode cX9_law 90 = .ok (.iconst 0, 1) := by decide +kernel
theorem dX9_law_91 : decode cX9_law 91 = .ok (.istore 5, 2) := by decide +kernel
theorem dX9_law_93 : decode cX9_law 93 = .ok (.iinc 6 1, 3) := by decide +kernel
theorem dX9_law_96 : decode cX9_law 96 = .ok (.goto (-38), 3) := by decide +kernel
theorem dX9_law_99 : decode cX9_law 99 = .ok (.iload 5, 2) := by decide +kernel
theorem dX9_law_101 : decode cX9_law 101 = .ok (.ifCond .eq 22, 3) := by decide +kernel
theorem dX9_law_104 : decode cX9_law 104 = .ok (.aload_n 0, 1) := by decide +kernel
theorem dX9_law_105 : decode cX9_law 105 = .ok (.getfield 25, 3) := by decide +kernel
theorem dX9_law_108 : decode cX9_law 108 = .ok (.iload_n 2, 1) := by decide +kernel
theorem dX9_law_109 : decode cX9_law 109 = .ok (.aload_n 0, 1) := by decide +kernel
theorem dX9_law_110 : decode cX9_law 110 = .ok (.getfield 16, 3) := by decide +kernel
theorem dX9_law_113 : decode cX9_law 113 = .ok (.iload 4, 2) := by decide +kernel
theorem dX9_law_115 : decode cX9_law 115 = .ok (.iaload, 1) := by decide +kernel
theorem dX9_law_116 : decode cX9_law 116 = .ok (.iastore, 1) := by decide +kernel
theorem dX9_law_117 : decode cX9_law 117 = .ok (.iinc 2 1, 3) := by decide +kernel
theorem dX9_law_120 : decode cX9_law 120 = .ok (.goto 18, 3) := by decide +kernel
theorem dX9_law_123 : decode cX9_law 123 = .ok (.aload_n 0, 1) := by decide +kernel
theorem dX9_law_124 : decode cX9_law 124 = .ok (.getfield 16, 3) := by decide +kernel
theorem dX9_law_127 : decode cX9_law 127 = .ok (.iload 4, 2) := by decide +kernel
theorem dX9_law_129 : decode cX9_law 129 = .ok (.iaload, 1) := by decide +kernel
theorem dX9_law_130 : decode cX9_law 130 = .ok (.bipush 32, 2) := by decide +kernel
theorem dX9_law_132 : decode cX9_law 132 = .ok (.if_icmp .eq 6, 3) := by decide +kernel
theorem dX9_law_135 : decode cX9_law 135 = .ok (.iload 4, 2) := by decide +kernel
theorem dX9_law_137 : decode cX9_law 137 = .ok (.istore_n 3, 1) := by decide +kernel
theorem dX9_law_138 : decode cX9_law 138 = .ok (.iinc 4 1, 3) := by decide +kernel
theorem dX9_law_141 : decode cX9_law 141 = .ok (.goto (-125), 3) := by decide +kernel
theorem dX9_law_144 : decode cX9_law 144 = .ok (.iload_n 3, 1) := by decide +kernel
theorem dX9_law_145 : decode cX9_law 145 = .ok (.ifCond .ge 14, 3) := by decide +kernel
theorem dX9_law_148 : decode cX9_law 148 = .ok (.iload_n 2, 1) := by decide +kernel
theorem dX9_law_149 : decode cX9_law 149 = .ok (.ifCond .ne 10, 3) := by decide +kernel
theorem dX9_law_152 : decode cX9_law 152 = .ok (.aload_n 0, 1) := by decide +kernel
theorem dX9_law_153 : decode cX9_law 153 = .ok (.getfield 126, 3) := by decide +kernel
theorem dX9_law_156 : decode cX9_law 156 = .ok (.goto 4, 3) := by decide +kernel
theorem dX9_law_159 : decode cX9_law 159 = .ok (.iload_n 3, 1) := by decide +kernel
theorem dX9_law_160 : decode cX9_law 160 = .ok (.istore_n 3, 1) := by decide +kernel
theorem dX9_law_161 : decode cX9_law 161 = .ok (.aload_n 0, 1) := by decide +kernel
theorem dX9_law_162 : decode cX9_law 162 = .ok (.iconst 0, 1) := by decide +kernel
theorem dX9_law_163 : decode cX9_law 163 = .ok (.putfield 126, 3) := by decide +kernel
theorem dX9_law_166 : decode cX9_law 166 = .ok (.iload_n 3, 1) := by decide +kernel
theorem dX9_law_167 : decode cX9_law 167 = .ok (.ifCond .lt 8, 3) := by decide +kernel
theorem dX9_law_170 : decode cX9_law 170 = .ok (.bipush (-20), 2) := by decide +kernel
theorem dX9_law_172 : decode cX9_law 172 = .ok (.iload_n 3, 1) := by decide +kernel
theorem dX9_law_173 : decode cX9_law 173 = .ok (.isub, 1) := by decide +kernel
theorem dX9_law_174 : decode cX9_law 174 = .ok (.ireturn, 1) := by decide +kernel
theorem dX9_law_175 : decode cX9_law 175 = .ok (.iconst 0, 1) := by decide +kernel
theorem dX9_law_176 : decode cX9_law 176 = .ok (.istore 4, 2) := by decide +kernel
theorem dX9_law_178 : decode cX9_law 178 = .ok (.iload 4, 2) := by decide +kernel
theorem dX9_law_180 : decode cX9_law 180 = .ok (.iload_n 2, 1) := by decide +kernel
theorem dX9_law_181 : decode cX9_law 181 = .ok (.if_icmp .ge 28, 3) := by decide +kernel
theorem dX9_law_184 : decode cX9_law 184 = .ok (.aload_n 0, 1) := by decide +kernel
theorem dX9_law_185 : decode cX9_law 185 = .ok (.getfield 19, 3) := by decide +kernel
theorem dX9_law_188 : decode cX9_law 188 = .ok (.bipush 12, 2) := by decide +kernel
theorem dX9_law_190 : decode cX9_law 190 = .ok (.iload_n 1, 1) := by decide +kernel
theorem dX9_law_191 : decode cX9_law 191 = .ok (.imul, 1) := by decide +kernel
theorem dX9_law_192 : decode cX9_law 192 = .ok (.iload 4, 2) := by decide +kernel
theorem dX9_law_194 : decode cX9_law 194 = .ok (.iadd, 1) := by decide +kernel
theorem dX9_law_195 : decode cX9_law 195 = .ok (.aload_n 0, 1) := by decide +kernel
theorem dX9_law_196 : decode cX9_law 196 = .ok (.getfield 25, 3) := by decide +kernel
theorem dX9_law_199 : decode cX9_law 199 = .ok (.iload 4, 2) := by decide +kernel
theorem dX9_law_201 : decode cX9_law 201 = .ok (.iaload, 1) := by decide +kernel
theorem dX9_law_202 : decode cX9_law 202 = .ok (.iastore, 1) := by decide +kernel
theorem dX9_law_203 : decode cX9_law 203 = .ok (.iinc 4 1, 3) := by decide +kernel
theorem dX9_law_206 : decode cX9_law 206 = .ok (.goto (-28), 3) := by decide +kernel
theorem dX9_law_209 : decode cX9_law 209 = .ok (.aload_n 0, 1) := by decide +kernel
theorem dX9_law_210 : decode cX9_law 210 = .ok (.getfield 22, 3) := by decide +kernel
theorem dX9_law_213 : decode cX9_law 213 = .ok (.iload_n 1, 1) := by decide +kernel
theorem dX9_law_214 : decode cX9_law 214 = .ok (.iload_n 2, 1) := by decide +kernel
theorem dX9_law_215 : decode cX9_law 215 = .ok (.iastore, 1) := by decide +kernel
theorem dX9_law_216 : decode cX9_law 216 = .ok (.iload_n 2, 1) := by decide +kernel
theorem dX9_law_217 : decode cX9_law 217 = .ok (.ireturn, 1) := by decide +kernel
theorem dX9_letter_0 : decode cX9_letter 0 = .ok (.iload_n 1, 1) := by decide +kernel
theorem dX9_letter_1 : decode cX9_letter 1 = .ok (.invokestatic 129, 3) := by decide +kernel
theorem dX9_letter_4 : decode cX9_letter 4 = .ok (.ifCond .eq 7, 3) := by decide +kernel
theorem dX9_letter_7 : decode cX9_letter 7 = .ok (.iload_n 2, 1) := by decide +kernel
theorem dX9_letter_8 : decode cX9_letter 8 = .ok (.ifCond .ge 7, 3) := by decide +kernel
theorem dX9_letter_11 : decode cX9_letter 11 = .ok (.iconst (-1), 1) := by decide +kernel
theorem dX9_letter_12 : decode cX9_letter 12 = .ok (.goto 29, 3) := by decide +kernel
theorem dX9_letter_15 : decode cX9_letter 15 = .ok (.iload_n 2, 1) := by decide +kernel
theorem dX9_letter_16 : decode cX9_letter 16 = .ok (.aload_n 0, 1) := by decide +kernel
theorem dX9_letter_17 : decode cX9_letter 17 = .ok (.getfield 22, 3) := by decide +kernel
theorem dX9_letter_20 : decode cX9_letter 20 = .ok (.iload_n 1, 1) := by decide +kernel
theorem dX9_letter_21 : decode cX9_letter 21 = .ok (.iaload, 1) := by decide +kernel
theorem dX9_letter_22 : decode cX9_letter 22 = .ok (.if_icmp .ge 17, 3) := by decide +kernel
theorem dX9_letter_25 : decode cX9_letter 25 = .ok (.aload_n 0, 1) := by decide +kernel
theorem dX9_letter_26 : decode cX9_letter 26 = .ok (.getfield 19, 3) := by decide +kernel
theorem dX9_letter_29 : decode cX9_letter 29 = .ok (.bipush 12, 2) := by decide +kernel
theorem dX9_letter_31 : decode cX9_letter 31 = .ok (.iload_n 1, 1) := by decide +kernel
theorem dX9_letter_32 : decode cX9_letter 32 = .ok (.imul, 1) := by decide +kernel
theorem dX9_letter_33 : decode cX9_letter 33 = .ok (.iload_n 2, 1) := by decide +kernel
theorem dX9_letter_34 : decode cX9_letter 34 = .ok (.iadd, 1) := by decide +kernel
theorem dX9_letter_35 : decode cX9_letter 35 = .ok (.iaload, 1) := by decide +kernel
theorem dX9_letter_36 : decode cX9_letter 36 = .ok (.goto 5, 3) := by decide +kernel
theorem dX9_letter_39 : decode cX9_letter 39 = .ok (.bipush (-4), 2) := by decide +kernel
theorem dX9_letter_41 : decode cX9_letter 41 = .ok (.ireturn, 1) := by decide +kernel
theorem dX9_has_0 : decode cX9_has 0 = .ok (.iconst 0, 1) := by decide +kernel
theorem dX9_has_1 : decode cX9_has 1 = .ok (.istore_n 3, 1) := by decide +kernel
theorem dX9_has_2 : decode cX9_has 2 = .ok (.iconst 0, 1) := by decide +kernel
theorem dX9_has_3 : decode cX9_has 3 = .ok (.istore 4, 2) := by decide +kernel
theorem dX9_has_5 : decode cX9_has 5 = .ok (.iload 4, 2) := by decide +kernel
theorem dX9_has_7 : decode cX9_has 7 = .ok (.aload_n 0, 1) := by decide +kernel
theorem dX9_has_8 : decode cX9_has 8 = .ok (.getfield 22, 3) := by decide +kernel
theorem dX9_has_11 : decode cX9_has 11 = .ok (.iload_n 1, 1) := by decide +kernel
theorem dX9_has_12 : decode cX9_has 12 = .ok (.iaload, 1) := by decide +kernel
theorem dX9_has_13 : decode cX9_has 13 = .ok (.if_icmp .ge 35, 3) := by decide +kernel
theorem dX9_has_16 : decode cX9_has 16 = .ok (.iload_n 3, 1) := by decide +kernel
theorem dX9_has_17 : decode cX9_has 17 = .ok (.ifCond .ne 19, 3) := by decide +kernel
theorem dX9_has_20 : decode cX9_has 20 = .ok (.aload_n 0, 1) := by decide +kernel
theorem dX9_has_21 : decode cX9_has 21 = .ok (.getfield 19, 3) := by decide +kernel
theorem dX9_has_24 : decode cX9_has 24 = .ok (.bipush 12, 2) := by decide +kernel
theorem dX9_has_26 : decode cX9_has 26 = .ok (.iload_n 1, 1) := by decide +kernel
theorem dX9_has_27 : decode cX9_has 27 = .ok (.imul, 1) := by decide +kernel
theorem dX9_has_28 : decode cX9_has 28 = .ok (.iload 4, 2) := by decide +kernel
theorem dX9_has_30 : decode cX9_has 30 = .ok (.iadd, 1) := by decide +kernel
theorem dX9_has_31 : decode cX9_has 31 = .ok (.iaload, 1) := by decide +kernel
theorem dX9_has_32 : decode cX9_has 32 = .ok (.iload_n 2, 1) := by decide +kernel
theorem dX9_has_33 : decode cX9_has 33 = .ok (.if_icmp .ne 7, 3) := by decide +kernel
theorem dX9_has_36 : decode cX9_has 36 = .ok (.iconst 1, 1) := by decide +kernel
theorem dX9_has_37 : decode cX9_has 37 = .ok (.goto 4, 3) := by decide +kernel
theorem dX9_has_40 : decode cX9_has 40 = .ok (.iconst 0, 1) := by decide +kernel
theorem dX9_has_41 : decode cX9_has 41 = .ok (.istore_n 3, 1) := by decide +kernel
theorem dX9_has_42 : decode cX9_has 42 = .ok (.iinc 4 1, 3) := by decide +kernel
theorem dX9_has_45 : decode cX9_has 45 = .ok (.goto (-40), 3) := by decide +kernel
theorem dX9_has_48 : decode cX9_has 48 = .ok (.iload_n 3, 1) := by decide +kernel
theorem dX9_has_49 : decode cX9_has 49 = .ok (.ireturn, 1) := by decide +kernel
theorem dX9_beginDays_0 : decode cX9_beginDays 0 = .ok (.iconst 0, 1) := by decide +kernel
theorem dX9_beginDays_1 : decode cX9_beginDays 1 = .ok (.istore_n 1, 1) := by decide +kernel
theorem dX9_beginDays_2 : decode cX9_beginDays 2 = .ok (.iload_n 1, 1) := by decide +kernel
theorem dX9_beginDays_3 : decode cX9_beginDays 3 = .ok (.bipush 8, 2) := by decide +kernel
theorem dX9_beginDays_5 : decode cX9_beginDays 5 = .ok (.if_icmp .ge 38, 3) := by decide +kernel
theorem dX9_beginDays_8 : decode cX9_beginDays 8 = .ok (.aload_n 0, 1) := by decide +kernel
theorem dX9_beginDays_9 : decode cX9_beginDays 9 = .ok (.getfield 28, 3) := by decide +kernel
