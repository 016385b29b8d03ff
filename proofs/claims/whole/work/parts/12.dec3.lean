theorem dX7_init_0 : decode cX7_init 0 = .ok (.aload_n 0, 1) := by decide +kernel
theorem dX7_init_1 : decode cX7_init 1 = .ok (.invokespecial 1, 3) := by decide +kernel
theorem dX7_init_4 : decode cX7_init 4 = .ok (.aload_n 0, 1) := by decide +kernel
theorem dX7_init_5 : decode cX7_init 5 = .ok (.bipush 8, 2) := by decide +kernel
theorem dX7_init_7 : decode cX7_init 7 = .ok (.newarray .int, 2) := by decide +kernel
theorem dX7_init_9 : decode cX7_init 9 = .ok (.putfield 7, 3) := by decide +kernel
theorem dX7_init_12 : decode cX7_init 12 = .ok (.aload_n 0, 1) := by decide +kernel
theorem dX7_init_13 : decode cX7_init 13 = .ok (.bipush 8, 2) := by decide +kernel
theorem dX7_init_15 : decode cX7_init 15 = .ok (.newarray .int, 2) := by decide +kernel
theorem dX7_init_17 : decode cX7_init 17 = .ok (.putfield 13, 3) := by decide +kernel
theorem dX7_init_20 : decode cX7_init 20 = .ok (.aload_n 0, 1) := by decide +kernel
theorem dX7_init_21 : decode cX7_init 21 = .ok (.sipush 320, 3) := by decide +kernel
theorem dX7_init_24 : decode cX7_init 24 = .ok (.newarray .int, 2) := by decide +kernel
theorem dX7_init_26 : decode cX7_init 26 = .ok (.putfield 16, 3) := by decide +kernel
theorem dX7_init_29 : decode cX7_init 29 = .ok (.aload_n 0, 1) := by decide +kernel
theorem dX7_init_30 : decode cX7_init 30 = .ok (.bipush 100, 2) := by decide +kernel
theorem dX7_init_32 : decode cX7_init 32 = .ok (.newarray .int, 2) := by decide +kernel
theorem dX7_init_34 : decode cX7_init 34 = .ok (.putfield 19, 3) := by decide +kernel
theorem dX7_init_37 : decode cX7_init 37 = .ok (.aload_n 0, 1) := by decide +kernel
theorem dX7_init_38 : decode cX7_init 38 = .ok (.bipush 47, 2) := by decide +kernel
theorem dX7_init_40 : decode cX7_init 40 = .ok (.newarray .int, 2) := by decide +kernel
theorem dX7_init_42 : decode cX7_init 42 = .ok (.putfield 22, 3) := by decide +kernel
theorem dX7_init_45 : decode cX7_init 45 = .ok (.aload_n 0, 1) := by decide +kernel
theorem dX7_init_46 : decode cX7_init 46 = .ok (.bipush 47, 2) := by decide +kernel
theorem dX7_init_48 : decode cX7_init 48 = .ok (.newarray .int, 2) := by decide +kernel
theorem dX7_init_50 : decode cX7_init 50 = .ok (.putfield 25, 3) := by decide +kernel
theorem dX7_init_53 : decode cX7_init 53 = .ok (.aload_n 0, 1) := by decide +kernel
theorem dX7_init_54 : decode cX7_init 54 = .ok (.bipush 47, 2) := by decide +kernel
theorem dX7_init_56 : decode cX7_init 56 = .ok (.newarray .int, 2) := by decide +kernel
theorem dX7_init_58 : decode cX7_init 58 = .ok (.putfield 28, 3) := by decide +kernel
theorem dX7_init_61 : decode cX7_init 61 = .ok (.aload_n 0, 1) := by decide +kernel
theorem dX7_init_62 : decode cX7_init 62 = .ok (.bipush 94, 2) := by decide +kernel
theorem dX7_init_64 : decode cX7_init 64 = .ok (.newarray .int, 2) := by decide +kernel
theorem dX7_init_66 : decode cX7_init 66 = .ok (.putfield 31, 3) := by decide +kernel
theorem dX7_init_69 : decode cX7_init 69 = .ok (.aload_n 0, 1) := by decide +kernel
theorem dX7_init_70 : decode cX7_init 70 = .ok (.iconst 2, 1) := by decide +kernel
theorem dX7_init_71 : decode cX7_init 71 = .ok (.newarray .boolean, 2) := by decide +kernel
theorem dX7_init_73 : decode cX7_init 73 = .ok (.putfield 34, 3) := by decide +kernel
theorem dX7_init_76 : decode cX7_init 76 = .ok (.aload_n 0, 1) := by decide +kernel
theorem dX7_init_77 : decode cX7_init 77 = .ok (.sipush 1128, 3) := by decide +kernel
theorem dX7_init_80 : decode cX7_init 80 = .ok (.newarray .int, 2) := by decide +kernel
theorem dX7_init_82 : decode cX7_init 82 = .ok (.putfield 38, 3) := by decide +kernel
theorem dX7_init_85 : decode cX7_init 85 = .ok (.aload_n 0, 1) := by decide +kernel
theorem dX7_init_86 : decode cX7_init 86 = .ok (.bipush 16, 2) := by decide +kernel
theorem dX7_init_88 : decode cX7_init 88 = .ok (.newarray .int, 2) := by decide +kernel
theorem dX7_init_90 : decode cX7_init 90 = .ok (.putfield 41, 3) := by decide +kernel
theorem dX7_init_93 : decode cX7_init 93 = .ok (.aload_n 0, 1) := by decide +kernel
theorem dX7_init_94 : decode cX7_init 94 = .ok (.bipush 16, 2) := by decide +kernel
theorem dX7_init_96 : decode cX7_init 96 = .ok (.newarray .int, 2) := by decide +kernel
theorem dX7_init_98 : decode cX7_init 98 = .ok (.putfield 44, 3) := by decide +kernel
theorem dX7_init_101 : decode cX7_init 101 = .ok (.aload_n 0, 1) := by decide +kernel
theorem dX7_init_102 : decode cX7_init 102 = .ok (.bipush 6, 2) := by decide +kernel
theorem dX7_init_104 : decode cX7_init 104 = .ok (.newarray .int, 2) := by decide +kernel
theorem dX7_init_106 : decode cX7_init 106 = .ok (.putfield 47, 3) := by decide +kernel
theorem dX7_init_109 : decode cX7_init 109 = .ok (.aload_n 0, 1) := by decide +kernel
theorem dX7_init_110 : decode cX7_init 110 = .ok (.bipush 6, 2) := by decide +kernel
theorem dX7_init_112 : decode cX7_init 112 = .ok (.newarray .int, 2) := by decide +kernel
theorem dX7_init_114 : decode cX7_init 114 = .ok (.putfield 50, 3) := by decide +kernel
theorem dX7_init_117 : decode cX7_init 117 = .ok (.aload_n 0, 1) := by decide +kernel
theorem dX7_init_118 : decode cX7_init 118 = .ok (.bipush 106, 2) := by decide +kernel
theorem dX7_init_120 : decode cX7_init 120 = .ok (.newarray .int, 2) := by decide +kernel
theorem dX7_init_122 : decode cX7_init 122 = .ok (.putfield 53, 3) := by decide +kernel
theorem dX7_init_125 : decode cX7_init 125 = .ok (.iconst 0, 1) := by decide +kernel
theorem dX7_init_126 : decode cX7_init 126 = .ok (.istore_n 1, 1) := by decide +kernel
theorem dX7_init_127 : decode cX7_init 127 = .ok (.iload_n 1, 1) := by decide +kernel
theorem dX7_init_128 : decode cX7_init 128 = .ok (.bipush 8, 2) := by decide +kernel
theorem dX7_init_130 : decode cX7_init 130 = .ok (.if_icmp .ge 16, 3) := by decide +kernel
theorem dX7_init_133 : decode cX7_init 133 = .ok (.aload_n 0, 1) := by decide +kernel
theorem dX7_init_134 : decode cX7_init 134 = .ok (.getfield 7, 3) := by decide +kernel
theorem dX7_init_137 : decode cX7_init 137 = .ok (.iload_n 1, 1) := by decide +kernel
theorem dX7_init_138 : decode cX7_init 138 = .ok (.iconst (-1), 1) := by decide +kernel
theorem dX7_init_139 : decode cX7_init 139 = .ok (.iastore, 1) := by decide +kernel
theorem dX7_init_140 : decode cX7_init 140 = .ok (.iinc 1 1, 3) := by decide +kernel
theorem dX7_init_143 : decode cX7_init 143 = .ok (.goto (-16), 3) := by decide +kernel
theorem dX7_init_146 : decode cX7_init 146 = .ok (.return_, 1) := by decide +kernel
theorem dX7_in_0 : decode cX7_in 0 = .ok (.iload_n 0, 1) := by decide +kernel
theorem dX7_in_1 : decode cX7_in 1 = .ok (.iload_n 1, 1) := by decide +kernel
theorem dX7_in_2 : decode cX7_in 2 = .ok (.if_icmp .lt 12, 3) := by decide +kernel
theorem dX7_in_5 : decode cX7_in 5 = .ok (.iload_n 0, 1) := by decide +kernel
theorem dX7_in_6 : decode cX7_in 6 = .ok (.iload_n 2, 1) := by decide +kernel
theorem dX7_in_7 : decode cX7_in 7 = .ok (.if_icmp .gt 7, 3) := by decide +kernel
theorem dX7_in_10 : decode cX7_in 10 = .ok (.iconst 1, 1) := by decide +kernel
theorem dX7_in_11 : decode cX7_in 11 = .ok (.goto 4, 3) := by decide +kernel
theorem dX7_in_14 : decode cX7_in 14 = .ok (.iconst 0, 1) := by decide +kernel
theorem dX7_in_15 : decode cX7_in 15 = .ok (.ireturn, 1) := by decide +kernel
theorem dX7_has_0 : decode cX7_has 0 = .ok (.iload_n 0, 1) := by decide +kernel
theorem dX7_has_1 : decode cX7_has 1 = .ok (.iload_n 1, 1) := by decide +kernel
theorem dX7_has_2 : decode cX7_has 2 = .ok (.ishr, 1) := by decide +kernel
theorem dX7_has_3 : decode cX7_has 3 = .ok (.iconst 1, 1) := by decide +kernel
theorem dX7_has_4 : decode cX7_has 4 = .ok (.iand, 1) := by decide +kernel
theorem dX7_has_5 : decode cX7_has 5 = .ok (.iconst 1, 1) := by decide +kernel
theorem dX7_has_6 : decode cX7_has 6 = .ok (.if_icmp .ne 7, 3) := by decide +kernel
theorem dX7_has_9 : decode cX7_has 9 = .ok (.iconst 1, 1) := by decide +kernel
theorem dX7_has_10 : decode cX7_has 10 = .ok (.goto 4, 3) := by decide +kernel
theorem dX7_has_13 : decode cX7_has 13 = .ok (.iconst 0, 1) := by decide +kernel
theorem dX7_has_14 : decode cX7_has 14 = .ok (.ireturn, 1) := by decide +kernel
theorem dX7_bits_0 : decode cX7_bits 0 = .ok (.iconst 0, 1) := by decide +kernel
theorem dX7_bits_1 : decode cX7_bits 1 = .ok (.istore_n 1, 1) := by decide +kernel
theorem dX7_bits_2 : decode cX7_bits 2 = .ok (.iconst 0, 1) := by decide +kernel
theorem dX7_bits_3 : decode cX7_bits 3 = .ok (.istore_n 2, 1) := by decide +kernel
theorem dX7_bits_4 : decode cX7_bits 4 = .ok (.iload_n 2, 1) := by decide +kernel
theorem dX7_bits_5 : decode cX7_bits 5 = .ok (.bipush 6, 2) := by decide +kernel
theorem dX7_bits_7 : decode cX7_bits 7 = .ok (.if_icmp .ge 17, 3) := by decide +kernel
theorem dX7_bits_10 : decode cX7_bits 10 = .ok (.iload_n 1, 1) := by decide +kernel
theorem dX7_bits_11 : decode cX7_bits 11 = .ok (.iload_n 0, 1) := by decide +kernel
theorem dX7_bits_12 : decode cX7_bits 12 = .ok (.iload_n 2, 1) := by decide +kernel
theorem dX7_bits_13 : decode cX7_bits 13 = .ok (.ishr, 1) := by decide +kernel
theorem dX7_bits_14 : decode cX7_bits 14 = .ok (.iconst 1, 1) := by decide +kernel
theorem dX7_bits_15 : decode cX7_bits 15 = .ok (.iand, 1) := by decide +kernel
theorem dX7_bits_16 : decode cX7_bits 16 = .ok (.iadd, 1) := by decide +kernel
theorem dX7_bits_17 : decode cX7_bits 17 = .ok (.istore_n 1, 1) := by decide +kernel
theorem dX7_bits_18 : decode cX7_bits 18 = .ok (.iinc 2 1, 3) := by decide +kernel
theorem dX7_bits_21 : decode cX7_bits 21 = .ok (.goto (-17), 3) := by decide +kernel
theorem dX7_bits_24 : decode cX7_bits 24 = .ok (.iload_n 1, 1) := by decide +kernel
theorem dX7_bits_25 : decode cX7_bits 25 = .ok (.ireturn, 1) := by decide +kernel
theorem dX7_lay_0 : decode cX7_lay 0 = .ok (.iconst 0, 1) := by decide +kernel
theorem dX7_lay_1 : decode cX7_lay 1 = .ok (.istore 4, 2) := by decide +kernel
theorem dX7_lay_3 : decode cX7_lay 3 = .ok (.iload 4, 2) := by decide +kernel
theorem dX7_lay_5 : decode cX7_lay 5 = .ok (.bipush 47, 2) := by decide +kernel
theorem dX7_lay_7 : decode cX7_lay 7 = .ok (.if_icmp .ge 21, 3) := by decide +kernel
theorem dX7_lay_10 : decode cX7_lay 10 = .ok (.aload_n 2, 1) := by decide +kernel
theorem dX7_lay_11 : decode cX7_lay 11 = .ok (.iload_n 3, 1) := by decide +kernel
theorem dX7_lay_12 : decode cX7_lay 12 = .ok (.iload 4, 2) := by decide +kernel
theorem dX7_lay_14 : decode cX7_lay 14 = .ok (.iadd, 1) := by decide +kernel
theorem dX7_lay_15 : decode cX7_lay 15 = .ok (.aload_n 0, 1) := by decide +kernel
theorem dX7_lay_16 : decode cX7_lay 16 = .ok (.iload_n 1, 1) := by decide +kernel
theorem dX7_lay_17 : decode cX7_lay 17 = .ok (.iload 4, 2) := by decide +kernel
theorem dX7_lay_19 : decode cX7_lay 19 = .ok (.iadd, 1) := by decide +kernel
theorem dX7_lay_20 : decode cX7_lay 20 = .ok (.iaload, 1) := by decide +kernel
theorem dX7_lay_21 : decode cX7_lay 21 = .ok (.iastore, 1) := by decide +kernel
theorem dX7_lay_22 : decode cX7_lay 22 = .ok (.iinc 4 1, 3) := by decide +kernel
theorem dX7_lay_25 : decode cX7_lay 25 = .ok (.goto (-22), 3) := by decide +kernel
theorem dX7_lay_28 : decode cX7_lay 28 = .ok (.return_, 1) := by decide +kernel
theorem dX7_isSquare_0 : decode cX7_isSquare 0 = .ok (.aload_n 0, 1) := by decide +kernel
theorem dX7_isSquare_1 : decode cX7_isSquare 1 = .ok (.getfield 22, 3) := by decide +kernel
theorem dX7_isSquare_4 : decode cX7_isSquare 4 = .ok (.iconst 2, 1) := by decide +kernel
theorem dX7_isSquare_5 : decode cX7_isSquare 5 = .ok (.iaload, 1) := by decide +kernel
theorem dX7_isSquare_6 : decode cX7_isSquare 6 = .ok (.ifCond .le 7, 3) := by decide +kernel
theorem dX7_isSquare_9 : decode cX7_isSquare 9 = .ok (.iconst 1, 1) := by decide +kernel
theorem dX7_isSquare_10 : decode cX7_isSquare 10 = .ok (.goto 4, 3) := by decide +kernel
theorem dX7_isSquare_13 : decode cX7_isSquare 13 = .ok (.iconst 0, 1) := by decide +kernel
theorem dX7_isSquare_14 : decode cX7_isSquare 14 = .ok (.ireturn, 1) := by decide +kernel
theorem dX7_isOne_0 : decode cX7_isOne 0 = .ok (.iload_n 1, 1) := by decide +kernel
theorem dX7_isOne_1 : decode cX7_isOne 1 = .ok (.iconst 0, 1) := by decide +kernel
theorem dX7_isOne_2 : decode cX7_isOne 2 = .ok (.aload_n 0, 1) := by decide +kernel
theorem dX7_isOne_3 : decode cX7_isOne 3 = .ok (.getfield 22, 3) := by decide +kernel
theorem dX7_isOne_6 : decode cX7_isOne 6 = .ok (.iconst 3, 1) := by decide +kernel
theorem dX7_isOne_7 : decode cX7_isOne 7 = .ok (.iaload, 1) := by decide +kernel
theorem dX7_isOne_8 : decode cX7_isOne 8 = .ok (.iconst 1, 1) := by decide +kernel
theorem dX7_isOne_9 : decode cX7_isOne 9 = .ok (.isub, 1) := by decide +kernel
theorem dX7_isOne_10 : decode cX7_isOne 10 = .ok (.invokestatic 56, 3) := by decide +kernel
theorem dX7_isOne_13 : decode cX7_isOne 13 = .ok (.ireturn, 1) := by decide +kernel
theorem dX7_isSet_0 : decode cX7_isSet 0 = .ok (.iload_n 1, 1) := by decide +kernel
theorem dX7_isSet_1 : decode cX7_isSet 1 = .ok (.iconst 0, 1) := by decide +kernel
theorem dX7_isSet_2 : decode cX7_isSet 2 = .ok (.iconst 1, 1) := by decide +kernel
theorem dX7_isSet_3 : decode cX7_isSet 3 = .ok (.aload_n 0, 1) := by decide +kernel
theorem dX7_isSet_4 : decode cX7_isSet 4 = .ok (.getfield 22, 3) := by decide +kernel
theorem dX7_isSet_7 : decode cX7_isSet 7 = .ok (.iconst 3, 1) := by decide +kernel
theorem dX7_isSet_8 : decode cX7_isSet 8 = .ok (.iaload, 1) := by decide +kernel
theorem dX7_isSet_9 : decode cX7_isSet 9 = .ok (.ishl, 1) := by decide +kernel
theorem dX7_isSet_10 : decode cX7_isSet 10 = .ok (.iconst 1, 1) := by decide +kernel
theorem dX7_isSet_11 : decode cX7_isSet 11 = .ok (.isub, 1) := by decide +kernel
theorem dX7_isSet_12 : decode cX7_isSet 12 = .ok (.invokestatic 56, 3) := by decide +kernel
theorem dX7_isSet_15 : decode cX7_isSet 15 = .ok (.ireturn, 1) := by decide +kernel
theorem dX7_finds_0 : decode cX7_finds 0 = .ok (.aload_n 0, 1) := by decide +kernel
theorem dX7_finds_1 : decode cX7_finds 1 = .ok (.iload_n 1, 1) := by decide +kernel
theorem dX7_finds_2 : decode cX7_finds 2 = .ok (.putfield 60, 3) := by decide +kernel
theorem dX7_finds_5 : decode cX7_finds 5 = .ok (.ldc 64, 2) := by decide +kernel
theorem dX7_finds_7 : decode cX7_finds 7 = .ok (.iload_n 1, 1) := by decide +kernel
theorem dX7_finds_8 : decode cX7_finds 8 = .ok (.isub, 1) := by decide +kernel
theorem dX7_finds_9 : decode cX7_finds 9 = .ok (.ireturn, 1) := by decide +kernel
theorem dX7_done_0 : decode cX7_done 0 = .ok (.aload_n 0, 1) := by decide +kernel
theorem dX7_done_1 : decode cX7_done 1 = .ok (.iconst 0, 1) := by decide +kernel
theorem dX7_done_2 : decode cX7_done 2 = .ok (.putfield 60, 3) := by decide +kernel
theorem dX7_done_5 : decode cX7_done 5 = .ok (.iload_n 1, 1) := by decide +kernel
theorem dX7_done_6 : decode cX7_done 6 = .ok (.ireturn, 1) := by decide +kernel
theorem dX7_isRow_0 : decode cX7_isRow 0 = .ok (.iload_n 0, 1) := by decide +kernel
theorem dX7_isRow_1 : decode cX7_isRow 1 = .ok (.iconst 0, 1) := by decide +kernel
theorem dX7_isRow_2 : decode cX7_isRow 2 = .ok (.bipush 7, 2) := by decide +kernel
theorem dX7_isRow_4 : decode cX7_isRow 4 = .ok (.invokestatic 56, 3) := by decide +kernel
theorem dX7_isRow_7 : decode cX7_isRow 7 = .ok (.ireturn, 1) := by decide +kernel
theorem dX7_row_0 : decode cX7_row 0 = .ok (.iload_n 1, 1) := by decide +kernel
theorem dX7_row_1 : decode cX7_row 1 = .ok (.invokestatic 65, 3) := by decide +kernel
theorem dX7_row_4 : decode cX7_row 4 = .ok (.ifCond .eq 18, 3) := by decide +kernel
theorem dX7_row_7 : decode cX7_row 7 = .ok (.iload_n 2, 1) := by decide +kernel
theorem dX7_row_8 : decode cX7_row 8 = .ok (.iconst 0, 1) := by decide +kernel
theorem dX7_row_9 : decode cX7_row 9 = .ok (.iconst 2, 1) := by decide +kernel
theorem dX7_row_10 : decode cX7_row 10 = .ok (.invokestatic 56, 3) := by decide +kernel
theorem dX7_row_13 : decode cX7_row 13 = .ok (.ifCond .eq 9, 3) := by decide +kernel
theorem dX7_row_16 : decode cX7_row 16 = .ok (.iload_n 3, 1) := by decide +kernel
theorem dX7_row_17 : decode cX7_row 17 = .ok (.bipush 40, 2) := by decide +kernel
theorem dX7_row_19 : decode cX7_row 19 = .ok (.if_icmp .le 6, 3) := by decide +kernel
theorem dX7_row_22 : decode cX7_row 22 = .ok (.ldc 69, 2) := by decide +kernel
theorem dX7_row_24 : decode cX7_row 24 = .ok (.ireturn, 1) := by decide +kernel
theorem dX7_row_25 : decode cX7_row 25 = .ok (.iload_n 3, 1) := by decide +kernel
theorem dX7_row_26 : decode cX7_row 26 = .ok (.ifCond .ge 9, 3) := by decide +kernel
theorem dX7_row_29 : decode cX7_row 29 = .ok (.aload_n 0, 1) := by decide +kernel
theorem dX7_row_30 : decode cX7_row 30 = .ok (.iconst 4, 1) := by decide +kernel
theorem dX7_row_31 : decode cX7_row 31 = .ok (.invokevirtual 70, 3) := by decide +kernel
theorem dX7_row_34 : decode cX7_row 34 = .ok (.ireturn, 1) := by decide +kernel
theorem dX7_row_35 : decode cX7_row 35 = .ok (.aload_n 0, 1) := by decide +kernel
theorem dX7_row_36 : decode cX7_row 36 = .ok (.getfield 7, 3) := by decide +kernel
theorem dX7_row_39 : decode cX7_row 39 = .ok (.iload_n 1, 1) := by decide +kernel
theorem dX7_row_40 : decode cX7_row 40 = .ok (.iload_n 2, 1) := by decide +kernel
theorem dX7_row_41 : decode cX7_row 41 = .ok (.iastore, 1) := by decide +kernel
theorem dX7_row_42 : decode cX7_row 42 = .ok (.aload_n 0, 1) := by decide +kernel
theorem dX7_row_43 : decode cX7_row 43 = .ok (.getfield 13, 3) := by decide +kernel
theorem dX7_row_46 : decode cX7_row 46 = .ok (.iload_n 1, 1) := by decide +kernel
theorem dX7_row_47 : decode cX7_row 47 = .ok (.iload_n 3, 1) := by decide +kernel
theorem dX7_row_48 : decode cX7_row 48 = .ok (.iastore, 1) := by decide +kernel
theorem dX7_row_49 : decode cX7_row 49 = .ok (.iconst 0, 1) := by decide +kernel
theorem dX7_row_50 : decode cX7_row 50 = .ok (.istore 4, 2) := by decide +kernel
theorem dX7_row_52 : decode cX7_row 52 = .ok (.iload 4, 2) := by decide +kernel
theorem dX7_row_54 : decode cX7_row 54 = .ok (.bipush 40, 2) := by decide +kernel
theorem dX7_row_56 : decode cX7_row 56 = .ok (.if_icmp .ge 22, 3) := by decide +kernel
theorem dX7_row_59 : decode cX7_row 59 = .ok (.aload_n 0, 1) := by decide +kernel
theorem dX7_row_60 : decode cX7_row 60 = .ok (.getfield 16, 3) := by decide +kernel
theorem dX7_row_63 : decode cX7_row 63 = .ok (.bipush 40, 2) := by decide +kernel
theorem dX7_row_65 : decode cX7_row 65 = .ok (.iload_n 1, 1) := by decide +kernel
theorem dX7_row_66 : decode cX7_row 66 = .ok (.imul, 1) := by decide +kernel
theorem dX7_row_67 : decode cX7_row 67 = .ok (.iload 4, 2) := by decide +kernel
theorem dX7_row_69 : decode cX7_row 69 = .ok (.iadd, 1) := by decide +kernel
theorem dX7_row_70 : decode cX7_row 70 = .ok (.iconst 0, 1) := by decide +kernel
theorem dX7_row_71 : decode cX7_row 71 = .ok (.iastore, 1) := by decide +kernel
theorem dX7_row_72 : decode cX7_row 72 = .ok (.iinc 4 1, 3) := by decide +kernel
theorem dX7_row_75 : decode cX7_row 75 = .ok (.goto (-23), 3) := by decide +kernel
theorem dX7_row_78 : decode cX7_row 78 = .ok (.aload_n 0, 1) := by decide +kernel
theorem dX7_row_79 : decode cX7_row 79 = .ok (.iload_n 3, 1) := by decide +kernel
theorem dX7_row_80 : decode cX7_row 80 = .ok (.invokevirtual 74, 3) := by decide +kernel
theorem dX7_row_83 : decode cX7_row 83 = .ok (.ireturn, 1) := by decide +kernel
theorem dX7_set_0 : decode cX7_set 0 = .ok (.iload_n 1, 1) := by decide +kernel
theorem dX7_set_1 : decode cX7_set 1 = .ok (.invokestatic 65, 3) := by decide +kernel
theorem dX7_set_4 : decode cX7_set 4 = .ok (.ifCond .ne 6, 3) := by decide +kernel
theorem dX7_set_7 : decode cX7_set 7 = .ok (.ldc 69, 2) := by decide +kernel
theorem dX7_set_9 : decode cX7_set 9 = .ok (.ireturn, 1) := by decide +kernel
theorem dX7_set_10 : decode cX7_set 10 = .ok (.aload_n 0, 1) := by decide +kernel
theorem dX7_set_11 : decode cX7_set 11 = .ok (.getfield 7, 3) := by decide +kernel
theorem dX7_set_14 : decode cX7_set 14 = .ok (.iload_n 1, 1) := by decide +kernel
theorem dX7_set_15 : decode cX7_set 15 = .ok (.iaload, 1) := by decide +kernel
theorem dX7_set_16 : decode cX7_set 16 = .ok (.ifCond .ge 9, 3) := by decide +kernel
theorem dX7_set_19 : decode cX7_set 19 = .ok (.aload_n 0, 1) := by decide +kernel
theorem dX7_set_20 : decode cX7_set 20 = .ok (.iconst 1, 1) := by decide +kernel
theorem dX7_set_21 : decode cX7_set 21 = .ok (.invokevirtual 70, 3) := by decide +kernel
theorem dX7_set_24 : decode cX7_set 24 = .ok (.ireturn, 1) := by decide +kernel
theorem dX7_set_25 : decode cX7_set 25 = .ok (.iload_n 2, 1) := by decide +kernel
theorem dX7_set_26 : decode cX7_set 26 = .ok (.iconst 0, 1) := by decide +kernel
theorem dX7_set_27 : decode cX7_set 27 = .ok (.aload_n 0, 1) := by decide +kernel
theorem dX7_set_28 : decode cX7_set 28 = .ok (.getfield 13, 3) := by decide +kernel
theorem dX7_set_31 : decode cX7_set 31 = .ok (.iload_n 1, 1) := by decide +kernel
theorem dX7_set_32 : decode cX7_set 32 = .ok (.iaload, 1) := by decide +kernel
theorem dX7_set_33 : decode cX7_set 33 = .ok (.iconst 1, 1) := by decide +kernel
theorem dX7_set_34 : decode cX7_set 34 = .ok (.isub, 1) := by decide +kernel
theorem dX7_set_35 : decode cX7_set 35 = .ok (.invokestatic 56, 3) := by decide +kernel
theorem dX7_set_38 : decode cX7_set 38 = .ok (.ifCond .ne 9, 3) := by decide +kernel
theorem dX7_set_41 : decode cX7_set 41 = .ok (.aload_n 0, 1) := by decide +kernel
theorem dX7_set_42 : decode cX7_set 42 = .ok (.iconst 2, 1) := by decide +kernel
theorem dX7_set_43 : decode cX7_set 43 = .ok (.invokevirtual 70, 3) := by decide +kernel
theorem dX7_set_46 : decode cX7_set 46 = .ok (.ireturn, 1) := by decide +kernel
theorem dX7_set_47 : decode cX7_set 47 = .ok (.aload_n 0, 1) := by decide +kernel
theorem dX7_set_48 : decode cX7_set 48 = .ok (.getfield 16, 3) := by decide +kernel
theorem dX7_set_51 : decode cX7_set 51 = .ok (.bipush 40, 2) := by decide +kernel
theorem dX7_set_53 : decode cX7_set 53 = .ok (.iload_n 1, 1) := by decide +kernel
theorem dX7_set_54 : decode cX7_set 54 = .ok (.imul, 1) := by decide +kernel
theorem dX7_set_55 : decode cX7_set 55 = .ok (.iload_n 2, 1) := by decide +kernel
theorem dX7_set_56 : decode cX7_set 56 = .ok (.iadd, 1) := by decide +kernel
theorem dX7_set_57 : decode cX7_set 57 = .ok (.aload_n 0, 1) := by decide +kernel
theorem dX7_set_58 : decode cX7_set 58 = .ok (.getfield 7, 3) := by decide +kernel
theorem dX7_set_61 : decode cX7_set 61 = .ok (.iload_n 1, 1) := by decide +kernel
theorem dX7_set_62 : decode cX7_set 62 = .ok (.iaload, 1) := by decide +kernel
theorem dX7_set_63 : decode cX7_set 63 = .ok (.ifCond .ne 8, 3) := by decide +kernel
theorem dX7_set_66 : decode cX7_set 66 = .ok (.iload_n 3, 1) := by decide +kernel
theorem dX7_set_67 : decode cX7_set 67 = .ok (.i2b, 1) := by decide +kernel
theorem dX7_set_68 : decode cX7_set 68 = .ok (.goto 19, 3) := by decide +kernel
theorem dX7_set_71 : decode cX7_set 71 = .ok (.aload_n 0, 1) := by decide +kernel
theorem dX7_set_72 : decode cX7_set 72 = .ok (.getfield 7, 3) := by decide +kernel
theorem dX7_set_75 : decode cX7_set 75 = .ok (.iload_n 1, 1) := by decide +kernel
theorem dX7_set_76 : decode cX7_set 76 = .ok (.iaload, 1) := by decide +kernel
theorem dX7_set_77 : decode cX7_set 77 = .ok (.iconst 1, 1) := by decide +kernel
theorem dX7_set_78 : decode cX7_set 78 = .ok (.if_icmp .ne 8, 3) := by decide +kernel
theorem dX7_set_81 : decode cX7_set 81 = .ok (.iload_n 3, 1) := by decide +kernel
theorem dX7_set_82 : decode cX7_set 82 = .ok (.i2s, 1) := by decide +kernel
theorem dX7_set_83 : decode cX7_set 83 = .ok (.goto 4, 3) := by decide +kernel
theorem dX7_set_86 : decode cX7_set 86 = .ok (.iload_n 3, 1) := by decide +kernel
theorem dX7_set_87 : decode cX7_set 87 = .ok (.iastore, 1) := by decide +kernel
theorem dX7_set_88 : decode cX7_set 88 = .ok (.aload_n 0, 1) := by decide +kernel
theorem dX7_set_89 : decode cX7_set 89 = .ok (.aload_n 0, 1) := by decide +kernel
theorem dX7_set_90 : decode cX7_set 90 = .ok (.getfield 16, 3) := by decide +kernel
theorem dX7_set_93 : decode cX7_set 93 = .ok (.bipush 40, 2) := by decide +kernel
theorem dX7_set_95 : decode cX7_set 95 = .ok (.iload_n 1, 1) := by decide +kernel
theorem dX7_set_96 : decode cX7_set 96 = .ok (.imul, 1) := by decide +kernel
theorem dX7_set_97 : decode cX7_set 97 = .ok (.iload_n 2, 1) := by decide +kernel
theorem dX7_set_98 : decode cX7_set 98 = .ok (.iadd, 1) := by decide +kernel
theorem dX7_set_99 : decode cX7_set 99 = .ok (.iaload, 1) := by decide +kernel
theorem dX7_set_100 : decode cX7_set 100 = .ok (.invokevirtual 74, 3) := by decide +kernel
theorem dX7_set_103 : decode cX7_set 103 = .ok (.ireturn, 1) := by decide +kernel
theorem dX7_isPart_0 : decode cX7_isPart 0 = .ok (.iload_n 0, 1) := by decide +kernel
theorem dX7_isPart_1 : decode cX7_isPart 1 = .ok (.ifCond .lt 23, 3) := by decide +kernel
theorem dX7_isPart_4 : decode cX7_isPart 4 = .ok (.iload_n 1, 1) := by decide +kernel
theorem dX7_isPart_5 : decode cX7_isPart 5 = .ok (.ifCond .lt 19, 3) := by decide +kernel
theorem dX7_isPart_8 : decode cX7_isPart 8 = .ok (.iload_n 1, 1) := by decide +kernel
theorem dX7_isPart_9 : decode cX7_isPart 9 = .ok (.iload_n 2, 1) := by decide +kernel
theorem dX7_isPart_10 : decode cX7_isPart 10 = .ok (.if_icmp .gt 14, 3) := by decide +kernel
theorem dX7_isPart_13 : decode cX7_isPart 13 = .ok (.iload_n 0, 1) := by decide +kernel
theorem dX7_isPart_14 : decode cX7_isPart 14 = .ok (.iload_n 2, 1) := by decide +kernel
theorem dX7_isPart_15 : decode cX7_isPart 15 = .ok (.iload_n 1, 1) := by decide +kernel
theorem dX7_isPart_16 : decode cX7_isPart 16 = .ok (.isub, 1) := by decide +kernel
theorem dX7_isPart_17 : decode cX7_isPart 17 = .ok (.if_icmp .gt 7, 3) := by decide +kernel
theorem dX7_isPart_20 : decode cX7_isPart 20 = .ok (.iconst 1, 1) := by decide +kernel
theorem dX7_isPart_21 : decode cX7_isPart 21 = .ok (.goto 4, 3) := by decide +kernel
theorem dX7_isPart_24 : decode cX7_isPart 24 = .ok (.iconst 0, 1) := by decide +kernel
theorem dX7_isPart_25 : decode cX7_isPart 25 = .ok (.ireturn, 1) := by decide +kernel
theorem dX7_copy_0 : decode cX7_copy 0 = .ok (.iload_n 1, 1) := by decide +kernel
theorem dX7_copy_1 : decode cX7_copy 1 = .ok (.invokestatic 65, 3) := by decide +kernel
theorem dX7_copy_4 : decode cX7_copy 4 = .ok (.ifCond .eq 10, 3) := by decide +kernel
theorem dX7_copy_7 : decode cX7_copy 7 = .ok (.iload_n 3, 1) := by decide +kernel
theorem dX7_copy_8 : decode cX7_copy 8 = .ok (.invokestatic 65, 3) := by decide +kernel
theorem dX7_copy_11 : decode cX7_copy 11 = .ok (.ifCond .ne 6, 3) := by decide +kernel
theorem dX7_copy_14 : decode cX7_copy 14 = .ok (.ldc 69, 2) := by decide +kernel
theorem dX7_copy_16 : decode cX7_copy 16 = .ok (.ireturn, 1) := by decide +kernel
theorem dX7_copy_17 : decode cX7_copy 17 = .ok (.aload_n 0, 1) := by decide +kernel
theorem dX7_copy_18 : decode cX7_copy 18 = .ok (.getfield 7, 3) := by decide +kernel
theorem dX7_copy_21 : decode cX7_copy 21 = .ok (.iload_n 1, 1) := by decide +kernel
theorem dX7_copy_22 : decode cX7_copy 22 = .ok (.iaload, 1) := by decide +kernel
theorem dX7_copy_23 : decode cX7_copy 23 = .ok (.ifCond .lt 12, 3) := by decide +kernel
theorem dX7_copy_26 : decode cX7_copy 26 = .ok (.aload_n 0, 1) := by decide +kernel
theorem dX7_copy_27 : decode cX7_copy 27 = .ok (.getfield 7, 3) := by decide +kernel
theorem dX7_copy_30 : decode cX7_copy 30 = .ok (.iload_n 3, 1) := by decide +kernel
theorem dX7_copy_31 : decode cX7_copy 31 = .ok (.iaload, 1) := by decide +kernel
theorem dX7_copy_32 : decode cX7_copy 32 = .ok (.ifCond .ge 9, 3) := by decide +kernel
theorem dX7_copy_35 : decode cX7_copy 35 = .ok (.aload_n 0, 1) := by decide +kernel
theorem dX7_copy_36 : decode cX7_copy 36 = .ok (.iconst 1, 1) := by decide +kernel
theorem dX7_copy_37 : decode cX7_copy 37 = .ok (.invokevirtual 70, 3) := by decide +kernel
theorem dX7_copy_40 : decode cX7_copy 40 = .ok (.ireturn, 1) := by decide +kernel
theorem dX7_copy_41 : decode cX7_copy 41 = .ok (.aload_n 0, 1) := by decide +kernel
theorem dX7_copy_42 : decode cX7_copy 42 = .ok (.getfield 7, 3) := by decide +kernel
theorem dX7_copy_45 : decode cX7_copy 45 = .ok (.iload_n 1, 1) := by decide +kernel
theorem dX7_copy_46 : decode cX7_copy 46 = .ok (.iaload, 1) := by decide +kernel
theorem dX7_copy_47 : decode cX7_copy 47 = .ok (.aload_n 0, 1) := by decide +kernel
theorem dX7_copy_48 : decode cX7_copy 48 = .ok (.getfield 7, 3) := by decide +kernel
theorem dX7_copy_51 : decode cX7_copy 51 = .ok (.iload_n 3, 1) := by decide +kernel
theorem dX7_copy_52 : decode cX7_copy 52 = .ok (.iaload, 1) := by decide +kernel
theorem dX7_copy_53 : decode cX7_copy 53 = .ok (.if_icmp .eq 9, 3) := by decide +kernel
theorem dX7_copy_56 : decode cX7_copy 56 = .ok (.aload_n 0, 1) := by decide +kernel
theorem dX7_copy_57 : decode cX7_copy 57 = .ok (.iconst 5, 1) := by decide +kernel
theorem dX7_copy_58 : decode cX7_copy 58 = .ok (.invokevirtual 70, 3) := by decide +kernel
theorem dX7_copy_61 : decode cX7_copy 61 = .ok (.ireturn, 1) := by decide +kernel
theorem dX7_copy_62 : decode cX7_copy 62 = .ok (.iload_n 2, 1) := by decide +kernel
theorem dX7_copy_63 : decode cX7_copy 63 = .ok (.iload 5, 2) := by decide +kernel
theorem dX7_copy_65 : decode cX7_copy 65 = .ok (.aload_n 0, 1) := by decide +kernel
theorem dX7_copy_66 : decode cX7_copy 66 = .ok (.getfield 13, 3) := by decide +kernel
theorem dX7_copy_69 : decode cX7_copy 69 = .ok (.iload_n 1, 1) := by decide +kernel
theorem dX7_copy_70 : decode cX7_copy 70 = .ok (.iaload, 1) := by decide +kernel
theorem dX7_copy_71 : decode cX7_copy 71 = .ok (.invokestatic 77, 3) := by decide +kernel
theorem dX7_copy_74 : decode cX7_copy 74 = .ok (.ifCond .eq 19, 3) := by decide +kernel
theorem dX7_copy_77 : decode cX7_copy 77 = .ok (.iload 4, 2) := by decide +kernel
theorem dX7_copy_79 : decode cX7_copy 79 = .ok (.iload 5, 2) := by decide +kernel
theorem dX7_copy_81 : decode cX7_copy 81 = .ok (.aload_n 0, 1) := by decide +kernel
theorem dX7_copy_82 : decode cX7_copy 82 = .ok (.getfield 13, 3) := by decide +kernel
theorem dX7_copy_85 : decode cX7_copy 85 = .ok (.iload_n 3, 1) := by decide +kernel
theorem dX7_copy_86 : decode cX7_copy 86 = .ok (.iaload, 1) := by decide +kernel
theorem dX7_copy_87 : decode cX7_copy 87 = .ok (.invokestatic 77, 3) := by decide +kernel
theorem dX7_copy_90 : decode cX7_copy 90 = .ok (.ifCond .ne 9, 3) := by decide +kernel
theorem dX7_copy_93 : decode cX7_copy 93 = .ok (.aload_n 0, 1) := by decide +kernel
theorem dX7_copy_94 : decode cX7_copy 94 = .ok (.iconst 2, 1) := by decide +kernel
theorem dX7_copy_95 : decode cX7_copy 95 = .ok (.invokevirtual 70, 3) := by decide +kernel
theorem dX7_copy_98 : decode cX7_copy 98 = .ok (.ireturn, 1) := by decide +kernel
theorem dX7_copy_99 : decode cX7_copy 99 = .ok (.iload_n 1, 1) := by decide +kernel
theorem dX7_copy_100 : decode cX7_copy 100 = .ok (.iload_n 3, 1) := by decide +kernel
theorem dX7_copy_101 : decode cX7_copy 101 = .ok (.if_icmp .ne 13, 3) := by decide +kernel
theorem dX7_copy_104 : decode cX7_copy 104 = .ok (.iload 4, 2) := by decide +kernel
theorem dX7_copy_106 : decode cX7_copy 106 = .ok (.iload_n 2, 1) := by decide +kernel
theorem dX7_copy_107 : decode cX7_copy 107 = .ok (.if_icmp .le 7, 3) := by decide +kernel
theorem dX7_copy_110 : decode cX7_copy 110 = .ok (.iconst 1, 1) := by decide +kernel
theorem dX7_copy_111 : decode cX7_copy 111 = .ok (.goto 4, 3) := by decide +kernel
theorem dX7_copy_114 : decode cX7_copy 114 = .ok (.iconst 0, 1) := by decide +kernel
theorem dX7_copy_115 : decode cX7_copy 115 = .ok (.istore 6, 2) := by decide +kernel
theorem dX7_copy_117 : decode cX7_copy 117 = .ok (.iconst 0, 1) := by decide +kernel
theorem dX7_copy_118 : decode cX7_copy 118 = .ok (.istore 7, 2) := by decide +kernel
theorem dX7_copy_120 : decode cX7_copy 120 = .ok (.iload 7, 2) := by decide +kernel
theorem dX7_copy_122 : decode cX7_copy 122 = .ok (.iload 5, 2) := by decide +kernel
theorem dX7_copy_124 : decode cX7_copy 124 = .ok (.if_icmp .ge 57, 3) := by decide +kernel
theorem dX7_copy_127 : decode cX7_copy 127 = .ok (.iload 6, 2) := by decide +kernel
theorem dX7_copy_129 : decode cX7_copy 129 = .ok (.ifCond .eq 13, 3) := by decide +kernel
theorem dX7_copy_132 : decode cX7_copy 132 = .ok (.iload 5, 2) := by decide +kernel
theorem dX7_copy_134 : decode cX7_copy 134 = .ok (.iconst 1, 1) := by decide +kernel
theorem dX7_copy_135 : decode cX7_copy 135 = .ok (.isub, 1) := by decide +kernel
theorem dX7_copy_136 : decode cX7_copy 136 = .ok (.iload 7, 2) := by decide +kernel
theorem dX7_copy_138 : decode cX7_copy 138 = .ok (.isub, 1) := by decide +kernel
theorem dX7_copy_139 : decode cX7_copy 139 = .ok (.goto 5, 3) := by decide +kernel
theorem dX7_copy_142 : decode cX7_copy 142 = .ok (.iload 7, 2) := by decide +kernel
theorem dX7_copy_144 : decode cX7_copy 144 = .ok (.istore 8, 2) := by decide +kernel
theorem dX7_copy_146 : decode cX7_copy 146 = .ok (.aload_n 0, 1) := by decide +kernel
theorem dX7_copy_147 : decode cX7_copy 147 = .ok (.getfield 16, 3) := by decide +kernel
theorem dX7_copy_150 : decode cX7_copy 150 = .ok (.bipush 40, 2) := by decide +kernel
theorem dX7_copy_152 : decode cX7_copy 152 = .ok (.iload_n 3, 1) := by decide +kernel
theorem dX7_copy_153 : decode cX7_copy 153 = .ok (.imul, 1) := by decide +kernel
theorem dX7_copy_154 : decode cX7_copy 154 = .ok (.iload 4, 2) := by decide +kernel
theorem dX7_copy_156 : decode cX7_copy 156 = .ok (.iadd, 1) := by decide +kernel
theorem dX7_copy_157 : decode cX7_copy 157 = .ok (.iload 8, 2) := by decide +kernel
theorem dX7_copy_159 : decode cX7_copy 159 = .ok (.iadd, 1) := by decide +kernel
theorem dX7_copy_160 : decode cX7_copy 160 = .ok (.aload_n 0, 1) := by decide +kernel
theorem dX7_copy_161 : decode cX7_copy 161 = .ok (.getfield 16, 3) := by decide +kernel
theorem dX7_copy_164 : decode cX7_copy 164 = .ok (.bipush 40, 2) := by decide +kernel
theorem dX7_copy_166 : decode cX7_copy 166 = .ok (.iload_n 1, 1) := by decide +kernel
theorem dX7_copy_167 : decode cX7_copy 167 = .ok (.imul, 1) := by decide +kernel
theorem dX7_copy_168 : decode cX7_copy 168 = .ok (.iload_n 2, 1) := by decide +kernel
theorem dX7_copy_169 : decode cX7_copy 169 = .ok (.iadd, 1) := by decide +kernel
theorem dX7_copy_170 : decode cX7_copy 170 = .ok (.iload 8, 2) := by decide +kernel
theorem dX7_copy_172 : decode cX7_copy 172 = .ok (.iadd, 1) := by decide +kernel
theorem dX7_copy_173 : decode cX7_copy 173 = .ok (.iaload, 1) := by decide +kernel
theorem dX7_copy_174 : decode cX7_copy 174 = .ok (.iastore, 1) := by decide +kernel
theorem dX7_copy_175 : decode cX7_copy 175 = .ok (.iinc 7 1, 3) := by decide +kernel
theorem dX7_copy_178 : decode cX7_copy 178 = .ok (.goto (-58), 3) := by decide +kernel
theorem dX7_copy_181 : decode cX7_copy 181 = .ok (.aload_n 0, 1) := by decide +kernel
theorem dX7_copy_182 : decode cX7_copy 182 = .ok (.iload 5, 2) := by decide +kernel
theorem dX7_copy_184 : decode cX7_copy 184 = .ok (.invokevirtual 74, 3) := by decide +kernel
theorem dX7_copy_187 : decode cX7_copy 187 = .ok (.ireturn, 1) := by decide +kernel
theorem dX7_drop_0 : decode cX7_drop 0 = .ok (.iload_n 1, 1) := by decide +kernel
theorem dX7_drop_1 : decode cX7_drop 1 = .ok (.invokestatic 65, 3) := by decide +kernel
theorem dX7_drop_4 : decode cX7_drop 4 = .ok (.ifCond .ne 6, 3) := by decide +kernel
theorem dX7_drop_7 : decode cX7_drop 7 = .ok (.ldc 69, 2) := by decide +kernel
theorem dX7_drop_9 : decode cX7_drop 9 = .ok (.ireturn, 1) := by decide +kernel
theorem dX7_drop_10 : decode cX7_drop 10 = .ok (.aload_n 0, 1) := by decide +kernel
theorem dX7_drop_11 : decode cX7_drop 11 = .ok (.getfield 7, 3) := by decide +kernel
theorem dX7_drop_14 : decode cX7_drop 14 = .ok (.iload_n 1, 1) := by decide +kernel
theorem dX7_drop_15 : decode cX7_drop 15 = .ok (.iaload, 1) := by decide +kernel
theorem dX7_drop_16 : decode cX7_drop 16 = .ok (.ifCond .ge 9, 3) := by decide +kernel
theorem dX7_drop_19 : decode cX7_drop 19 = .ok (.aload_n 0, 1) := by decide +kernel
theorem dX7_drop_20 : decode cX7_drop 20 = .ok (.iconst 1, 1) := by decide +kernel
theorem dX7_drop_21 : decode cX7_drop 21 = .ok (.invokevirtual 70, 3) := by decide +kernel
theorem dX7_drop_24 : decode cX7_drop 24 = .ok (.ireturn, 1) := by decide +kernel
theorem dX7_drop_25 : decode cX7_drop 25 = .ok (.aload_n 0, 1) := by decide +kernel
theorem dX7_drop_26 : decode cX7_drop 26 = .ok (.getfield 7, 3) := by decide +kernel
theorem dX7_drop_29 : decode cX7_drop 29 = .ok (.iload_n 1, 1) := by decide +kernel
theorem dX7_drop_30 : decode cX7_drop 30 = .ok (.iconst (-1), 1) := by decide +kernel
theorem dX7_drop_31 : decode cX7_drop 31 = .ok (.iastore, 1) := by decide +kernel
theorem dX7_drop_32 : decode cX7_drop 32 = .ok (.aload_n 0, 1) := by decide +kernel
theorem dX7_drop_33 : decode cX7_drop 33 = .ok (.aload_n 0, 1) := by decide +kernel
theorem dX7_drop_34 : decode cX7_drop 34 = .ok (.getfield 13, 3) := by decide +kernel
theorem dX7_drop_37 : decode cX7_drop 37 = .ok (.iload_n 1, 1) := by decide +kernel
theorem dX7_drop_38 : decode cX7_drop 38 = .ok (.iaload, 1) := by decide +kernel
theorem dX7_drop_39 : decode cX7_drop 39 = .ok (.invokevirtual 74, 3) := by decide +kernel
theorem dX7_drop_42 : decode cX7_drop 42 = .ok (.ireturn, 1) := by decide +kernel
theorem dX7_feed_0 : decode cX7_feed 0 = .ok (.iload_n 1, 1) := by decide +kernel
theorem dX7_feed_1 : decode cX7_feed 1 = .ok (.iconst 0, 1) := by decide +kernel
theorem dX7_feed_2 : decode cX7_feed 2 = .ok (.sipush 255, 3) := by decide +kernel
theorem dX7_feed_5 : decode cX7_feed 5 = .ok (.invokestatic 56, 3) := by decide +kernel
theorem dX7_feed_8 : decode cX7_feed 8 = .ok (.ifCond .ne 6, 3) := by decide +kernel
theorem dX7_feed_11 : decode cX7_feed 11 = .ok (.ldc 69, 2) := by decide +kernel
theorem dX7_feed_13 : decode cX7_feed 13 = .ok (.ireturn, 1) := by decide +kernel
theorem dX7_feed_14 : decode cX7_feed 14 = .ok (.aload_n 0, 1) := by decide +kernel
theorem dX7_feed_15 : decode cX7_feed 15 = .ok (.getfield 80, 3) := by decide +kernel
theorem dX7_feed_18 : decode cX7_feed 18 = .ok (.bipush 100, 2) := by decide +kernel
theorem dX7_feed_20 : decode cX7_feed 20 = .ok (.if_icmp .ne 6, 3) := by decide +kernel
theorem dX7_feed_23 : decode cX7_feed 23 = .ok (.ldc 83, 2) := by decide +kernel
theorem dX7_feed_25 : decode cX7_feed 25 = .ok (.ireturn, 1) := by decide +kernel
theorem dX7_feed_26 : decode cX7_feed 26 = .ok (.aload_n 0, 1) := by decide +kernel
theorem dX7_feed_27 : decode cX7_feed 27 = .ok (.getfield 19, 3) := by decide +kernel
theorem dX7_feed_30 : decode cX7_feed 30 = .ok (.aload_n 0, 1) := by decide +kernel
theorem dX7_feed_31 : decode cX7_feed 31 = .ok (.getfield 80, 3) := by decide +kernel
theorem dX7_feed_34 : decode cX7_feed 34 = .ok (.iload_n 1, 1) := by decide +kernel
theorem dX7_feed_35 : decode cX7_feed 35 = .ok (.iastore, 1) := by decide +kernel
theorem dX7_feed_36 : decode cX7_feed 36 = .ok (.aload_n 0, 1) := by decide +kernel
theorem dX7_feed_37 : decode cX7_feed 37 = .ok (.dup, 1) := by decide +kernel
theorem dX7_feed_38 : decode cX7_feed 38 = .ok (.getfield 80, 3) := by decide +kernel
theorem dX7_feed_41 : decode cX7_feed 41 = .ok (.iconst 1, 1) := by decide +kernel
theorem dX7_feed_42 : decode cX7_feed 42 = .ok (.iadd, 1) := by decide +kernel
theorem dX7_feed_43 : decode cX7_feed 43 = .ok (.putfield 80, 3) := by decide +kernel
theorem dX7_feed_46 : decode cX7_feed 46 = .ok (.aload_n 0, 1) := by decide +kernel
theorem dX7_feed_47 : decode cX7_feed 47 = .ok (.getfield 80, 3) := by decide +kernel
theorem dX7_feed_50 : decode cX7_feed 50 = .ok (.ireturn, 1) := by decide +kernel
theorem dX7_nextToken_0 : decode cX7_nextToken 0 = .ok (.aload_n 0, 1) := by decide +kernel
theorem dX7_nextToken_1 : decode cX7_nextToken 1 = .ok (.aload_n 0, 1) := by decide +kernel
theorem dX7_nextToken_2 : decode cX7_nextToken 2 = .ok (.getfield 84, 3) := by decide +kernel
theorem dX7_nextToken_5 : decode cX7_nextToken 5 = .ok (.putfield 87, 3) := by decide +kernel
theorem dX7_nextToken_8 : decode cX7_nextToken 8 = .ok (.aload_n 0, 1) := by decide +kernel
theorem dX7_nextToken_9 : decode cX7_nextToken 9 = .ok (.iconst 0, 1) := by decide +kernel
theorem dX7_nextToken_10 : decode cX7_nextToken 10 = .ok (.putfield 90, 3) := by decide +kernel
theorem dX7_nextToken_13 : decode cX7_nextToken 13 = .ok (.aload_n 0, 1) := by decide +kernel
theorem dX7_nextToken_14 : decode cX7_nextToken 14 = .ok (.getfield 84, 3) := by decide +kernel
theorem dX7_nextToken_17 : decode cX7_nextToken 17 = .ok (.aload_n 0, 1) := by decide +kernel
theorem dX7_nextToken_18 : decode cX7_nextToken 18 = .ok (.getfield 80, 3) := by decide +kernel
theorem dX7_nextToken_21 : decode cX7_nextToken 21 = .ok (.if_icmp .ne 10, 3) := by decide +kernel
theorem dX7_nextToken_24 : decode cX7_nextToken 24 = .ok (.aload_n 0, 1) := by decide +kernel
theorem dX7_nextToken_25 : decode cX7_nextToken 25 = .ok (.bipush (-2), 2) := by decide +kernel
theorem dX7_nextToken_27 : decode cX7_nextToken 27 = .ok (.putfield 93, 3) := by decide +kernel
theorem dX7_nextToken_30 : decode cX7_nextToken 30 = .ok (.return_, 1) := by decide +kernel
theorem dX7_nextToken_31 : decode cX7_nextToken 31 = .ok (.aload_n 0, 1) := by decide +kernel
theorem dX7_nextToken_32 : decode cX7_nextToken 32 = .ok (.getfield 19, 3) := by decide +kernel
theorem dX7_nextToken_35 : decode cX7_nextToken 35 = .ok (.aload_n 0, 1) := by decide +kernel
theorem dX7_nextToken_36 : decode cX7_nextToken 36 = .ok (.getfield 84, 3) := by decide +kernel
theorem dX7_nextToken_39 : decode cX7_nextToken 39 = .ok (.iaload, 1) := by decide +kernel
theorem dX7_nextToken_40 : decode cX7_nextToken 40 = .ok (.istore_n 1, 1) := by decide +kernel
theorem dX7_nextToken_41 : decode cX7_nextToken 41 = .ok (.iload_n 1, 1) := by decide +kernel
theorem dX7_nextToken_42 : decode cX7_nextToken 42 = .ok (.bipush 48, 2) := by decide +kernel
theorem dX7_nextToken_44 : decode cX7_nextToken 44 = .ok (.bipush 57, 2) := by decide +kernel
theorem dX7_nextToken_46 : decode cX7_nextToken 46 = .ok (.invokestatic 56, 3) := by decide +kernel
theorem dX7_nextToken_49 : decode cX7_nextToken 49 = .ok (.ifCond .eq 114, 3) := by decide +kernel
theorem dX7_nextToken_52 : decode cX7_nextToken 52 = .ok (.aload_n 0, 1) := by decide +kernel
theorem dX7_nextToken_53 : decode cX7_nextToken 53 = .ok (.getfield 84, 3) := by decide +kernel
theorem dX7_nextToken_56 : decode cX7_nextToken 56 = .ok (.aload_n 0, 1) := by decide +kernel
theorem dX7_nextToken_57 : decode cX7_nextToken 57 = .ok (.getfield 80, 3) := by decide +kernel
theorem dX7_nextToken_60 : decode cX7_nextToken 60 = .ok (.if_icmp .ge 79, 3) := by decide +kernel
theorem dX7_nextToken_63 : decode cX7_nextToken 63 = .ok (.aload_n 0, 1) := by decide +kernel
theorem dX7_nextToken_64 : decode cX7_nextToken 64 = .ok (.getfield 19, 3) := by decide +kernel
theorem dX7_nextToken_67 : decode cX7_nextToken 67 = .ok (.aload_n 0, 1) := by decide +kernel
theorem dX7_nextToken_68 : decode cX7_nextToken 68 = .ok (.getfield 84, 3) := by decide +kernel
theorem dX7_nextToken_71 : decode cX7_nextToken 71 = .ok (.iaload, 1) := by decide +kernel
theorem dX7_nextToken_72 : decode cX7_nextToken 72 = .ok (.bipush 48, 2) := by decide +kernel
theorem dX7_nextToken_74 : decode cX7_nextToken 74 = .ok (.bipush 57, 2) := by decide +kernel
theorem dX7_nextToken_76 : decode cX7_nextToken 76 = .ok (.invokestatic 56, 3) := by decide +kernel
theorem dX7_nextToken_79 : decode cX7_nextToken 79 = .ok (.ifCond .eq 60, 3) := by decide +kernel
theorem dX7_nextToken_82 : decode cX7_nextToken 82 = .ok (.aload_n 0, 1) := by decide +kernel
theorem dX7_nextToken_83 : decode cX7_nextToken 83 = .ok (.aload_n 0, 1) := by decide +kernel
theorem dX7_nextToken_84 : decode cX7_nextToken 84 = .ok (.getfield 84, 3) := by decide +kernel
theorem dX7_nextToken_87 : decode cX7_nextToken 87 = .ok (.aload_n 0, 1) := by decide +kernel
theorem dX7_nextToken_88 : decode cX7_nextToken 88 = .ok (.getfield 87, 3) := by decide +kernel
theorem dX7_nextToken_91 : decode cX7_nextToken 91 = .ok (.isub, 1) := by decide +kernel
theorem dX7_nextToken_92 : decode cX7_nextToken 92 = .ok (.iconst 2, 1) := by decide +kernel
theorem dX7_nextToken_93 : decode cX7_nextToken 93 = .ok (.if_icmp .ge 26, 3) := by decide +kernel
theorem dX7_nextToken_96 : decode cX7_nextToken 96 = .ok (.bipush 10, 2) := by decide +kernel
theorem dX7_nextToken_98 : decode cX7_nextToken 98 = .ok (.aload_n 0, 1) := by decide +kernel
theorem dX7_nextToken_99 : decode cX7_nextToken 99 = .ok (.getfield 90, 3) := by decide +kernel
theorem dX7_nextToken_102 : decode cX7_nextToken 102 = .ok (.imul, 1) := by decide +kernel
theorem dX7_nextToken_103 : decode cX7_nextToken 103 = .ok (.aload_n 0, 1) := by decide +kernel
theorem dX7_nextToken_104 : decode cX7_nextToken 104 = .ok (.getfield 19, 3) := by decide +kernel
theorem dX7_nextToken_107 : decode cX7_nextToken 107 = .ok (.aload_n 0, 1) := by decide +kernel
theorem dX7_nextToken_108 : decode cX7_nextToken 108 = .ok (.getfield 84, 3) := by decide +kernel
theorem dX7_nextToken_111 : decode cX7_nextToken 111 = .ok (.iaload, 1) := by decide +kernel
theorem dX7_nextToken_112 : decode cX7_nextToken 112 = .ok (.iadd, 1) := by decide +kernel
theorem dX7_nextToken_113 : decode cX7_nextToken 113 = .ok (.bipush 48, 2) := by decide +kernel
theorem dX7_nextToken_115 : decode cX7_nextToken 115 = .ok (.isub, 1) := by decide +kernel
theorem dX7_nextToken_116 : decode cX7_nextToken 116 = .ok (.goto 7, 3) := by decide +kernel
theorem dX7_nextToken_119 : decode cX7_nextToken 119 = .ok (.aload_n 0, 1) := by decide +kernel
theorem dX7_nextToken_120 : decode cX7_nextToken 120 = .ok (.getfield 90, 3) := by decide +kernel
theorem dX7_nextToken_123 : decode cX7_nextToken 123 = .ok (.putfield 90, 3) := by decide +kernel
theorem dX7_nextToken_126 : decode cX7_nextToken 126 = .ok (.aload_n 0, 1) := by decide +kernel
theorem dX7_nextToken_127 : decode cX7_nextToken 127 = .ok (.dup, 1) := by decide +kernel
theorem dX7_nextToken_128 : decode cX7_nextToken 128 = .ok (.getfield 84, 3) := by decide +kernel
theorem dX7_nextToken_131 : decode cX7_nextToken 131 = .ok (.iconst 1, 1) := by decide +kernel
theorem dX7_nextToken_132 : decode cX7_nextToken 132 = .ok (.iadd, 1) := by decide +kernel
theorem dX7_nextToken_133 : decode cX7_nextToken 133 = .ok (.putfield 84, 3) := by decide +kernel
theorem dX7_nextToken_136 : decode cX7_nextToken 136 = .ok (.goto (-84), 3) := by decide +kernel
theorem dX7_nextToken_139 : decode cX7_nextToken 139 = .ok (.aload_n 0, 1) := by decide +kernel
theorem dX7_nextToken_140 : decode cX7_nextToken 140 = .ok (.aload_n 0, 1) := by decide +kernel
theorem dX7_nextToken_141 : decode cX7_nextToken 141 = .ok (.getfield 84, 3) := by decide +kernel
theorem dX7_nextToken_144 : decode cX7_nextToken 144 = .ok (.aload_n 0, 1) := by decide +kernel
theorem dX7_nextToken_145 : decode cX7_nextToken 145 = .ok (.getfield 87, 3) := by decide +kernel
theorem dX7_nextToken_148 : decode cX7_nextToken 148 = .ok (.isub, 1) := by decide +kernel
theorem dX7_nextToken_149 : decode cX7_nextToken 149 = .ok (.iconst 2, 1) := by decide +kernel
theorem dX7_nextToken_150 : decode cX7_nextToken 150 = .ok (.if_icmp .le 8, 3) := by decide +kernel
theorem dX7_nextToken_153 : decode cX7_nextToken 153 = .ok (.bipush (-3), 2) := by decide +kernel
theorem dX7_nextToken_155 : decode cX7_nextToken 155 = .ok (.goto 4, 3) := by decide +kernel
theorem dX7_nextToken_158 : decode cX7_nextToken 158 = .ok (.iconst (-1), 1) := by decide +kernel
theorem dX7_nextToken_159 : decode cX7_nextToken 159 = .ok (.putfield 93, 3) := by decide +kernel
theorem dX7_nextToken_162 : decode cX7_nextToken 162 = .ok (.return_, 1) := by decide +kernel
theorem dX7_nextToken_163 : decode cX7_nextToken 163 = .ok (.aload_n 0, 1) := by decide +kernel
theorem dX7_nextToken_164 : decode cX7_nextToken 164 = .ok (.iload_n 1, 1) := by decide +kernel
theorem dX7_nextToken_165 : decode cX7_nextToken 165 = .ok (.bipush 97, 2) := by decide +kernel
theorem dX7_nextToken_167 : decode cX7_nextToken 167 = .ok (.bipush 122, 2) := by decide +kernel
theorem dX7_nextToken_169 : decode cX7_nextToken 169 = .ok (.invokestatic 56, 3) := by decide +kernel
theorem dX7_nextToken_172 : decode cX7_nextToken 172 = .ok (.ifCond .ne 15, 3) := by decide +kernel
theorem dX7_nextToken_175 : decode cX7_nextToken 175 = .ok (.iload_n 1, 1) := by decide +kernel
theorem dX7_nextToken_176 : decode cX7_nextToken 176 = .ok (.bipush 44, 2) := by decide +kernel
theorem dX7_nextToken_178 : decode cX7_nextToken 178 = .ok (.if_icmp .eq 9, 3) := by decide +kernel
theorem dX7_nextToken_181 : decode cX7_nextToken 181 = .ok (.iload_n 1, 1) := by decide +kernel
theorem dX7_nextToken_182 : decode cX7_nextToken 182 = .ok (.bipush 59, 2) := by decide +kernel
theorem dX7_nextToken_184 : decode cX7_nextToken 184 = .ok (.if_icmp .ne 7, 3) := by decide +kernel
theorem dX7_nextToken_187 : decode cX7_nextToken 187 = .ok (.iload_n 1, 1) := by decide +kernel
theorem dX7_nextToken_188 : decode cX7_nextToken 188 = .ok (.goto 5, 3) := by decide +kernel
theorem dX7_nextToken_191 : decode cX7_nextToken 191 = .ok (.bipush (-3), 2) := by decide +kernel
theorem dX7_nextToken_193 : decode cX7_nextToken 193 = .ok (.putfield 93, 3) := by decide +kernel
theorem dX7_nextToken_196 : decode cX7_nextToken 196 = .ok (.aload_n 0, 1) := by decide +kernel
theorem dX7_nextToken_197 : decode cX7_nextToken 197 = .ok (.dup, 1) := by decide +kernel
theorem dX7_nextToken_198 : decode cX7_nextToken 198 = .ok (.getfield 84, 3) := by decide +kernel
theorem dX7_nextToken_201 : decode cX7_nextToken 201 = .ok (.iconst 1, 1) := by decide +kernel
theorem dX7_nextToken_202 : decode cX7_nextToken 202 = .ok (.iadd, 1) := by decide +kernel
theorem dX7_nextToken_203 : decode cX7_nextToken 203 = .ok (.putfield 84, 3) := by decide +kernel
theorem dX7_nextToken_206 : decode cX7_nextToken 206 = .ok (.return_, 1) := by decide +kernel
theorem dX7_fails_0 : decode cX7_fails 0 = .ok (.aload_n 0, 1) := by decide +kernel
theorem dX7_fails_1 : decode cX7_fails 1 = .ok (.iload_n 1, 1) := by decide +kernel
theorem dX7_fails_2 : decode cX7_fails 2 = .ok (.putfield 96, 3) := by decide +kernel
theorem dX7_fails_5 : decode cX7_fails 5 = .ok (.iconst 0, 1) := by decide +kernel
theorem dX7_fails_6 : decode cX7_fails 6 = .ok (.ireturn, 1) := by decide +kernel
theorem dX7_isSign_0 : decode cX7_isSign 0 = .ok (.aload_n 0, 1) := by decide +kernel
theorem dX7_isSign_1 : decode cX7_isSign 1 = .ok (.invokevirtual 99, 3) := by decide +kernel
theorem dX7_isSign_4 : decode cX7_isSign 4 = .ok (.aload_n 0, 1) := by decide +kernel
theorem dX7_isSign_5 : decode cX7_isSign 5 = .ok (.getfield 93, 3) := by decide +kernel
theorem dX7_isSign_8 : decode cX7_isSign 8 = .ok (.iload_n 1, 1) := by decide +kernel
theorem dX7_isSign_9 : decode cX7_isSign 9 = .ok (.if_icmp .eq 11, 3) := by decide +kernel
theorem dX7_isSign_12 : decode cX7_isSign 12 = .ok (.aload_n 0, 1) := by decide +kernel
theorem dX7_isSign_13 : decode cX7_isSign 13 = .ok (.iconst 1, 1) := by decide +kernel
theorem dX7_isSign_14 : decode cX7_isSign 14 = .ok (.invokevirtual 102, 3) := by decide +kernel
theorem dX7_isSign_17 : decode cX7_isSign 17 = .ok (.ifCond .eq 7, 3) := by decide +kernel
theorem dX7_isSign_20 : decode cX7_isSign 20 = .ok (.iconst 1, 1) := by decide +kernel
theorem dX7_isSign_21 : decode cX7_isSign 21 = .ok (.goto 4, 3) := by decide +kernel
theorem dX7_isSign_24 : decode cX7_isSign 24 = .ok (.iconst 0, 1) := by decide +kernel
theorem dX7_isSign_25 : decode cX7_isSign 25 = .ok (.ireturn, 1) := by decide +kernel
theorem dX7_isNumber_0 : decode cX7_isNumber 0 = .ok (.aload_n 0, 1) := by decide +kernel
theorem dX7_isNumber_1 : decode cX7_isNumber 1 = .ok (.invokevirtual 99, 3) := by decide +kernel
theorem dX7_isNumber_4 : decode cX7_isNumber 4 = .ok (.aload_n 0, 1) := by decide +kernel
theorem dX7_isNumber_5 : decode cX7_isNumber 5 = .ok (.getfield 93, 3) := by decide +kernel
theorem dX7_isNumber_8 : decode cX7_isNumber 8 = .ok (.iconst (-1), 1) := by decide +kernel
theorem dX7_isNumber_9 : decode cX7_isNumber 9 = .ok (.if_icmp .eq 9, 3) := by decide +kernel
theorem dX7_isNumber_12 : decode cX7_isNumber 12 = .ok (.aload_n 0, 1) := by decide +kernel
theorem dX7_isNumber_13 : decode cX7_isNumber 13 = .ok (.iconst 1, 1) := by decide +kernel
theorem dX7_isNumber_14 : decode cX7_isNumber 14 = .ok (.invokevirtual 102, 3) := by decide +kernel
theorem dX7_isNumber_17 : decode cX7_isNumber 17 = .ok (.ireturn, 1) := by decide +kernel
theorem dX7_isNumber_18 : decode cX7_isNumber 18 = .ok (.aload_n 0, 1) := by decide +kernel
theorem dX7_isNumber_19 : decode cX7_isNumber 19 = .ok (.getfield 90, 3) := by decide +kernel
theorem dX7_isNumber_22 : decode cX7_isNumber 22 = .ok (.iload_n 1, 1) := by decide +kernel
theorem dX7_isNumber_23 : decode cX7_isNumber 23 = .ok (.iload_n 2, 1) := by decide +kernel
theorem dX7_isNumber_24 : decode cX7_isNumber 24 = .ok (.invokestatic 56, 3) := by decide +kernel
theorem dX7_isNumber_27 : decode cX7_isNumber 27 = .ok (.ifCond .ne 11, 3) := by decide +kernel
theorem dX7_isNumber_30 : decode cX7_isNumber 30 = .ok (.aload_n 0, 1) := by decide +kernel
theorem dX7_isNumber_31 : decode cX7_isNumber 31 = .ok (.iconst 2, 1) := by decide +kernel
theorem dX7_isNumber_32 : decode cX7_isNumber 32 = .ok (.invokevirtual 102, 3) := by decide +kernel
theorem dX7_isNumber_35 : decode cX7_isNumber 35 = .ok (.ifCond .eq 7, 3) := by decide +kernel
theorem dX7_isNumber_38 : decode cX7_isNumber 38 = .ok (.iconst 1, 1) := by decide +kernel
theorem dX7_isNumber_39 : decode cX7_isNumber 39 = .ok (.goto 4, 3) := by decide +kernel
theorem dX7_isNumber_42 : decode cX7_isNumber 42 = .ok (.iconst 0, 1) := by decide +kernel
theorem dX7_isNumber_43 : decode cX7_isNumber 43 = .ok (.ireturn, 1) := by decide +kernel
theorem dX7_isPair_0 : decode cX7_isPair 0 = .ok (.aload_n 0, 1) := by decide +kernel
theorem dX7_isPair_1 : decode cX7_isPair 1 = .ok (.iload_n 2, 1) := by decide +kernel
theorem dX7_isPair_2 : decode cX7_isPair 2 = .ok (.iload_n 3, 1) := by decide +kernel
theorem dX7_isPair_3 : decode cX7_isPair 3 = .ok (.invokevirtual 105, 3) := by decide +kernel
theorem dX7_isPair_6 : decode cX7_isPair 6 = .ok (.ifCond .ne 5, 3) := by decide +kernel
theorem dX7_isPair_9 : decode cX7_isPair 9 = .ok (.iconst 0, 1) := by decide +kernel
theorem dX7_isPair_10 : decode cX7_isPair 10 = .ok (.ireturn, 1) := by decide +kernel
theorem dX7_isPair_11 : decode cX7_isPair 11 = .ok (.aload_n 0, 1) := by decide +kernel
theorem dX7_isPair_12 : decode cX7_isPair 12 = .ok (.getfield 25, 3) := by decide +kernel
theorem dX7_isPair_15 : decode cX7_isPair 15 = .ok (.iload_n 1, 1) := by decide +kernel
theorem dX7_isPair_16 : decode cX7_isPair 16 = .ok (.aload_n 0, 1) := by decide +kernel
theorem dX7_isPair_17 : decode cX7_isPair 17 = .ok (.getfield 90, 3) := by decide +kernel
theorem dX7_isPair_20 : decode cX7_isPair 20 = .ok (.iastore, 1) := by decide +kernel
theorem dX7_isPair_21 : decode cX7_isPair 21 = .ok (.aload_n 0, 1) := by decide +kernel
theorem dX7_isPair_22 : decode cX7_isPair 22 = .ok (.bipush 44, 2) := by decide +kernel
theorem dX7_isPair_24 : decode cX7_isPair 24 = .ok (.invokevirtual 109, 3) := by decide +kernel
theorem dX7_isPair_27 : decode cX7_isPair 27 = .ok (.ifCond .eq 13, 3) := by decide +kernel
theorem dX7_isPair_30 : decode cX7_isPair 30 = .ok (.aload_n 0, 1) := by decide +kernel
theorem dX7_isPair_31 : decode cX7_isPair 31 = .ok (.iconst 0, 1) := by decide +kernel
theorem dX7_isPair_32 : decode cX7_isPair 32 = .ok (.iload 5, 2) := by decide +kernel
theorem dX7_isPair_34 : decode cX7_isPair 34 = .ok (.invokevirtual 105, 3) := by decide +kernel
theorem dX7_isPair_37 : decode cX7_isPair 37 = .ok (.ifCond .ne 5, 3) := by decide +kernel
theorem dX7_isPair_40 : decode cX7_isPair 40 = .ok (.iconst 0, 1) := by decide +kernel
theorem dX7_isPair_41 : decode cX7_isPair 41 = .ok (.ireturn, 1) := by decide +kernel
theorem dX7_isPair_42 : decode cX7_isPair 42 = .ok (.aload_n 0, 1) := by decide +kernel
theorem dX7_isPair_43 : decode cX7_isPair 43 = .ok (.getfield 25, 3) := by decide +kernel
theorem dX7_isPair_46 : decode cX7_isPair 46 = .ok (.iload 4, 2) := by decide +kernel
theorem dX7_isPair_48 : decode cX7_isPair 48 = .ok (.aload_n 0, 1) := by decide +kernel
theorem dX7_isPair_49 : decode cX7_isPair 49 = .ok (.getfield 90, 3) := by decide +kernel
theorem dX7_isPair_52 : decode cX7_isPair 52 = .ok (.iastore, 1) := by decide +kernel
theorem dX7_isPair_53 : decode cX7_isPair 53 = .ok (.aload_n 0, 1) := by decide +kernel
theorem dX7_isPair_54 : decode cX7_isPair 54 = .ok (.bipush 59, 2) := by decide +kernel
theorem dX7_isPair_56 : decode cX7_isPair 56 = .ok (.invokevirtual 109, 3) := by decide +kernel
theorem dX7_isPair_59 : decode cX7_isPair 59 = .ok (.ireturn, 1) := by decide +kernel
theorem dX7_sortBy_0 : decode cX7_sortBy 0 = .ok (.iload_n 0, 1) := by decide +kernel
theorem dX7_sortBy_1 : decode cX7_sortBy 1 = .ok (.bipush 112, 2) := by decide +kernel
theorem dX7_sortBy_3 : decode cX7_sortBy 3 = .ok (.if_icmp .ne 7, 3) := by decide +kernel
theorem dX7_sortBy_6 : decode cX7_sortBy 6 = .ok (.iconst 1, 1) := by decide +kernel
theorem dX7_sortBy_7 : decode cX7_sortBy 7 = .ok (.goto 44, 3) := by decide +kernel
theorem dX7_sortBy_10 : decode cX7_sortBy 10 = .ok (.iload_n 0, 1) := by decide +kernel
theorem dX7_sortBy_11 : decode cX7_sortBy 11 = .ok (.bipush 100, 2) := by decide +kernel
theorem dX7_sortBy_13 : decode cX7_sortBy 13 = .ok (.if_icmp .ne 7, 3) := by decide +kernel
theorem dX7_sortBy_16 : decode cX7_sortBy 16 = .ok (.iconst 2, 1) := by decide +kernel
theorem dX7_sortBy_17 : decode cX7_sortBy 17 = .ok (.goto 34, 3) := by decide +kernel
theorem dX7_sortBy_20 : decode cX7_sortBy 20 = .ok (.iload_n 0, 1) := by decide +kernel
theorem dX7_sortBy_21 : decode cX7_sortBy 21 = .ok (.bipush 116, 2) := by decide +kernel
theorem dX7_sortBy_23 : decode cX7_sortBy 23 = .ok (.if_icmp .ne 7, 3) := by decide +kernel
theorem dX7_sortBy_26 : decode cX7_sortBy 26 = .ok (.iconst 3, 1) := by decide +kernel
theorem dX7_sortBy_27 : decode cX7_sortBy 27 = .ok (.goto 24, 3) := by decide +kernel
theorem dX7_sortBy_30 : decode cX7_sortBy 30 = .ok (.iload_n 0, 1) := by decide +kernel
theorem dX7_sortBy_31 : decode cX7_sortBy 31 = .ok (.bipush 110, 2) := by decide +kernel
theorem dX7_sortBy_33 : decode cX7_sortBy 33 = .ok (.if_icmp .ne 7, 3) := by decide +kernel
theorem dX7_sortBy_36 : decode cX7_sortBy 36 = .ok (.iconst 4, 1) := by decide +kernel
theorem dX7_sortBy_37 : decode cX7_sortBy 37 = .ok (.goto 14, 3) := by decide +kernel
theorem dX7_sortBy_40 : decode cX7_sortBy 40 = .ok (.iload_n 0, 1) := by decide +kernel
theorem dX7_sortBy_41 : decode cX7_sortBy 41 = .ok (.bipush 108, 2) := by decide +kernel
theorem dX7_sortBy_43 : decode cX7_sortBy 43 = .ok (.if_icmp .ne 7, 3) := by decide +kernel
theorem dX7_sortBy_46 : decode cX7_sortBy 46 = .ok (.iconst 5, 1) := by decide +kernel
theorem dX7_sortBy_47 : decode cX7_sortBy 47 = .ok (.goto 4, 3) := by decide +kernel
theorem dX7_sortBy_50 : decode cX7_sortBy 50 = .ok (.iconst 0, 1) := by decide +kernel
theorem dX7_sortBy_51 : decode cX7_sortBy 51 = .ok (.ireturn, 1) := by decide +kernel
theorem dX7_isItem_0 : decode cX7_isItem 0 = .ok (.aload_n 0, 1) := by decide +kernel
theorem dX7_isItem_1 : decode cX7_isItem 1 = .ok (.getfield 93, 3) := by decide +kernel
theorem dX7_isItem_4 : decode cX7_isItem 4 = .ok (.bipush 102, 2) := by decide +kernel
theorem dX7_isItem_6 : decode cX7_isItem 6 = .ok (.if_icmp .ne 73, 3) := by decide +kernel
theorem dX7_isItem_9 : decode cX7_isItem 9 = .ok (.aload_n 0, 1) := by decide +kernel
theorem dX7_isItem_10 : decode cX7_isItem 10 = .ok (.getfield 25, 3) := by decide +kernel
theorem dX7_isItem_13 : decode cX7_isItem 13 = .ok (.iconst 3, 1) := by decide +kernel
theorem dX7_isItem_14 : decode cX7_isItem 14 = .ok (.iaload, 1) := by decide +kernel
theorem dX7_isItem_15 : decode cX7_isItem 15 = .ok (.ifCond .ne 64, 3) := by decide +kernel
theorem dX7_isItem_18 : decode cX7_isItem 18 = .ok (.aload_n 0, 1) := by decide +kernel
theorem dX7_isItem_19 : decode cX7_isItem 19 = .ok (.getfield 25, 3) := by decide +kernel
theorem dX7_isItem_22 : decode cX7_isItem 22 = .ok (.iconst 2, 1) := by decide +kernel
theorem dX7_isItem_23 : decode cX7_isItem 23 = .ok (.iaload, 1) := by decide +kernel
theorem dX7_isItem_24 : decode cX7_isItem 24 = .ok (.istore_n 1, 1) := by decide +kernel
theorem dX7_isItem_25 : decode cX7_isItem 25 = .ok (.iload_n 1, 1) := by decide +kernel
theorem dX7_isItem_26 : decode cX7_isItem 26 = .ok (.bipush 6, 2) := by decide +kernel
theorem dX7_isItem_28 : decode cX7_isItem 28 = .ok (.if_icmp .ne 9, 3) := by decide +kernel
theorem dX7_isItem_31 : decode cX7_isItem 31 = .ok (.aload_n 0, 1) := by decide +kernel
theorem dX7_isItem_32 : decode cX7_isItem 32 = .ok (.iconst 3, 1) := by decide +kernel
theorem dX7_isItem_33 : decode cX7_isItem 33 = .ok (.invokevirtual 102, 3) := by decide +kernel
theorem dX7_isItem_36 : decode cX7_isItem 36 = .ok (.ireturn, 1) := by decide +kernel
theorem dX7_isItem_37 : decode cX7_isItem 37 = .ok (.aload_n 0, 1) := by decide +kernel
theorem dX7_isItem_38 : decode cX7_isItem 38 = .ok (.getfield 25, 3) := by decide +kernel
theorem dX7_isItem_41 : decode cX7_isItem 41 = .ok (.iconst 4, 1) := by decide +kernel
theorem dX7_isItem_42 : decode cX7_isItem 42 = .ok (.iload_n 1, 1) := by decide +kernel
theorem dX7_isItem_43 : decode cX7_isItem 43 = .ok (.iadd, 1) := by decide +kernel
theorem dX7_isItem_44 : decode cX7_isItem 44 = .ok (.iload_n 1, 1) := by decide +kernel
theorem dX7_isItem_45 : decode cX7_isItem 45 = .ok (.iastore, 1) := by decide +kernel
theorem dX7_isItem_46 : decode cX7_isItem 46 = .ok (.aload_n 0, 1) := by decide +kernel
theorem dX7_isItem_47 : decode cX7_isItem 47 = .ok (.bipush 10, 2) := by decide +kernel
theorem dX7_isItem_49 : decode cX7_isItem 49 = .ok (.iload_n 1, 1) := by decide +kernel
theorem dX7_isItem_50 : decode cX7_isItem 50 = .ok (.iadd, 1) := by decide +kernel
theorem dX7_isItem_51 : decode cX7_isItem 51 = .ok (.iconst 0, 1) := by decide +kernel
theorem dX7_isItem_52 : decode cX7_isItem 52 = .ok (.bipush 9, 2) := by decide +kernel
theorem dX7_isItem_54 : decode cX7_isItem 54 = .ok (.bipush 16, 2) := by decide +kernel
theorem dX7_isItem_56 : decode cX7_isItem 56 = .ok (.iload_n 1, 1) := by decide +kernel
theorem dX7_isItem_57 : decode cX7_isItem 57 = .ok (.iadd, 1) := by decide +kernel
theorem dX7_isItem_58 : decode cX7_isItem 58 = .ok (.iconst 3, 1) := by decide +kernel
theorem dX7_isItem_59 : decode cX7_isItem 59 = .ok (.invokevirtual 112, 3) := by decide +kernel
theorem dX7_isItem_62 : decode cX7_isItem 62 = .ok (.ifCond .ne 5, 3) := by decide +kernel
theorem dX7_isItem_65 : decode cX7_isItem 65 = .ok (.iconst 0, 1) := by decide +kernel
theorem dX7_isItem_66 : decode cX7_isItem 66 = .ok (.ireturn, 1) := by decide +kernel
theorem dX7_isItem_67 : decode cX7_isItem 67 = .ok (.aload_n 0, 1) := by decide +kernel
theorem dX7_isItem_68 : decode cX7_isItem 68 = .ok (.getfield 25, 3) := by decide +kernel
theorem dX7_isItem_71 : decode cX7_isItem 71 = .ok (.iconst 2, 1) := by decide +kernel
theorem dX7_isItem_72 : decode cX7_isItem 72 = .ok (.dup2, 1) := by decide +kernel
theorem dX7_isItem_73 : decode cX7_isItem 73 = .ok (.iaload, 1) := by decide +kernel
theorem dX7_isItem_74 : decode cX7_isItem 74 = .ok (.iconst 1, 1) := by decide +kernel
theorem dX7_isItem_75 : decode cX7_isItem 75 = .ok (.iadd, 1) := by decide +kernel
theorem dX7_isItem_76 : decode cX7_isItem 76 = .ok (.iastore, 1) := by decide +kernel
theorem dX7_isItem_77 : decode cX7_isItem 77 = .ok (.iconst 1, 1) := by decide +kernel
theorem dX7_isItem_78 : decode cX7_isItem 78 = .ok (.ireturn, 1) := by decide +kernel
theorem dX7_isItem_79 : decode cX7_isItem 79 = .ok (.aload_n 0, 1) := by decide +kernel
theorem dX7_isItem_80 : decode cX7_isItem 80 = .ok (.getfield 93, 3) := by decide +kernel
theorem dX7_isItem_83 : decode cX7_isItem 83 = .ok (.ifCond .le 13, 3) := by decide +kernel
theorem dX7_isItem_86 : decode cX7_isItem 86 = .ok (.aload_n 0, 1) := by decide +kernel
theorem dX7_isItem_87 : decode cX7_isItem 87 = .ok (.getfield 93, 3) := by decide +kernel
theorem dX7_isItem_90 : decode cX7_isItem 90 = .ok (.invokestatic 116, 3) := by decide +kernel
theorem dX7_isItem_93 : decode cX7_isItem 93 = .ok (.goto 4, 3) := by decide +kernel
theorem dX7_isItem_96 : decode cX7_isItem 96 = .ok (.iconst 0, 1) := by decide +kernel
theorem dX7_isItem_97 : decode cX7_isItem 97 = .ok (.istore_n 1, 1) := by decide +kernel
theorem dX7_isItem_98 : decode cX7_isItem 98 = .ok (.iload_n 1, 1) := by decide +kernel
theorem dX7_isItem_99 : decode cX7_isItem 99 = .ok (.ifCond .eq 12, 3) := by decide +kernel
theorem dX7_isItem_102 : decode cX7_isItem 102 = .ok (.aload_n 0, 1) := by decide +kernel
theorem dX7_isItem_103 : decode cX7_isItem 103 = .ok (.getfield 25, 3) := by decide +kernel
theorem dX7_isItem_106 : decode cX7_isItem 106 = .ok (.iconst 2, 1) := by decide +kernel
theorem dX7_isItem_107 : decode cX7_isItem 107 = .ok (.iaload, 1) := by decide +kernel
theorem dX7_isItem_108 : decode cX7_isItem 108 = .ok (.ifCond .ne 9, 3) := by decide +kernel
theorem dX7_isItem_111 : decode cX7_isItem 111 = .ok (.aload_n 0, 1) := by decide +kernel
theorem dX7_isItem_112 : decode cX7_isItem 112 = .ok (.iconst 1, 1) := by decide +kernel
theorem dX7_isItem_113 : decode cX7_isItem 113 = .ok (.invokevirtual 102, 3) := by decide +kernel
theorem dX7_isItem_116 : decode cX7_isItem 116 = .ok (.ireturn, 1) := by decide +kernel
theorem dX7_isItem_117 : decode cX7_isItem 117 = .ok (.aload_n 0, 1) := by decide +kernel
theorem dX7_isItem_118 : decode cX7_isItem 118 = .ok (.getfield 25, 3) := by decide +kernel
theorem dX7_isItem_121 : decode cX7_isItem 121 = .ok (.iconst 3, 1) := by decide +kernel
theorem dX7_isItem_122 : decode cX7_isItem 122 = .ok (.iaload, 1) := by decide +kernel
theorem dX7_isItem_123 : decode cX7_isItem 123 = .ok (.istore_n 2, 1) := by decide +kernel
theorem dX7_isItem_124 : decode cX7_isItem 124 = .ok (.iload_n 2, 1) := by decide +kernel
theorem dX7_isItem_125 : decode cX7_isItem 125 = .ok (.iconst 5, 1) := by decide +kernel
theorem dX7_isItem_126 : decode cX7_isItem 126 = .ok (.if_icmp .ne 9, 3) := by decide +kernel
theorem dX7_isItem_129 : decode cX7_isItem 129 = .ok (.aload_n 0, 1) := by decide +kernel
theorem dX7_isItem_130 : decode cX7_isItem 130 = .ok (.iconst 3, 1) := by decide +kernel
theorem dX7_isItem_131 : decode cX7_isItem 131 = .ok (.invokevirtual 102, 3) := by decide +kernel
theorem dX7_isItem_134 : decode cX7_isItem 134 = .ok (.ireturn, 1) := by decide +kernel
theorem dX7_isItem_135 : decode cX7_isItem 135 = .ok (.aload_n 0, 1) := by decide +kernel
theorem dX7_isItem_136 : decode cX7_isItem 136 = .ok (.getfield 25, 3) := by decide +kernel
theorem dX7_isItem_139 : decode cX7_isItem 139 = .ok (.bipush 22, 2) := by decide +kernel
theorem dX7_isItem_141 : decode cX7_isItem 141 = .ok (.iload_n 2, 1) := by decide +kernel
theorem dX7_isItem_142 : decode cX7_isItem 142 = .ok (.iadd, 1) := by decide +kernel
theorem dX7_isItem_143 : decode cX7_isItem 143 = .ok (.iload_n 1, 1) := by decide +kernel
theorem dX7_isItem_144 : decode cX7_isItem 144 = .ok (.iastore, 1) := by decide +kernel
theorem dX7_isItem_145 : decode cX7_isItem 145 = .ok (.aload_n 0, 1) := by decide +kernel
theorem dX7_isItem_146 : decode cX7_isItem 146 = .ok (.bipush 27, 2) := by decide +kernel
theorem dX7_isItem_148 : decode cX7_isItem 148 = .ok (.iload_n 2, 1) := by decide +kernel
theorem dX7_isItem_149 : decode cX7_isItem 149 = .ok (.iadd, 1) := by decide +kernel
theorem dX7_isItem_150 : decode cX7_isItem 150 = .ok (.iconst 1, 1) := by decide +kernel
theorem dX7_isItem_151 : decode cX7_isItem 151 = .ok (.bipush 60, 2) := by decide +kernel
theorem dX7_isItem_153 : decode cX7_isItem 153 = .ok (.bipush 32, 2) := by decide +kernel
theorem dX7_isItem_155 : decode cX7_isItem 155 = .ok (.iload_n 2, 1) := by decide +kernel
theorem dX7_isItem_156 : decode cX7_isItem 156 = .ok (.iadd, 1) := by decide +kernel
theorem dX7_isItem_157 : decode cX7_isItem 157 = .ok (.iconst 1, 1) := by decide +kernel
theorem dX7_isItem_158 : decode cX7_isItem 158 = .ok (.invokevirtual 112, 3) := by decide +kernel
theorem dX7_isItem_161 : decode cX7_isItem 161 = .ok (.ifCond .ne 5, 3) := by decide +kernel
theorem dX7_isItem_164 : decode cX7_isItem 164 = .ok (.iconst 0, 1) := by decide +kernel
theorem dX7_isItem_165 : decode cX7_isItem 165 = .ok (.ireturn, 1) := by decide +kernel
theorem dX7_isItem_166 : decode cX7_isItem 166 = .ok (.aload_n 0, 1) := by decide +kernel
theorem dX7_isItem_167 : decode cX7_isItem 167 = .ok (.getfield 25, 3) := by decide +kernel
theorem dX7_isItem_170 : decode cX7_isItem 170 = .ok (.iconst 3, 1) := by decide +kernel
theorem dX7_isItem_171 : decode cX7_isItem 171 = .ok (.dup2, 1) := by decide +kernel
theorem dX7_isItem_172 : decode cX7_isItem 172 = .ok (.iaload, 1) := by decide +kernel
theorem dX7_isItem_173 : decode cX7_isItem 173 = .ok (.iconst 1, 1) := by decide +kernel
theorem dX7_isItem_174 : decode cX7_isItem 174 = .ok (.iadd, 1) := by decide +kernel
theorem dX7_isItem_175 : decode cX7_isItem 175 = .ok (.iastore, 1) := by decide +kernel
theorem dX7_isItem_176 : decode cX7_isItem 176 = .ok (.iconst 1, 1) := by decide +kernel
theorem dX7_isItem_177 : decode cX7_isItem 177 = .ok (.ireturn, 1) := by decide +kernel
theorem dX7_isRead_0 : decode cX7_isRead 0 = .ok (.iconst 0, 1) := by decide +kernel
theorem dX7_isRead_1 : decode cX7_isRead 1 = .ok (.istore_n 1, 1) := by decide +kernel
theorem dX7_isRead_2 : decode cX7_isRead 2 = .ok (.iload_n 1, 1) := by decide +kernel
theorem dX7_isRead_3 : decode cX7_isRead 3 = .ok (.bipush 47, 2) := by decide +kernel
theorem dX7_isRead_5 : decode cX7_isRead 5 = .ok (.if_icmp .ge 16, 3) := by decide +kernel
theorem dX7_isRead_8 : decode cX7_isRead 8 = .ok (.aload_n 0, 1) := by decide +kernel
theorem dX7_isRead_9 : decode cX7_isRead 9 = .ok (.getfield 25, 3) := by decide +kernel
theorem dX7_isRead_12 : decode cX7_isRead 12 = .ok (.iload_n 1, 1) := by decide +kernel
theorem dX7_isRead_13 : decode cX7_isRead 13 = .ok (.iconst 0, 1) := by decide +kernel
theorem dX7_isRead_14 : decode cX7_isRead 14 = .ok (.iastore, 1) := by decide +kernel
theorem dX7_isRead_15 : decode cX7_isRead 15 = .ok (.iinc 1 1, 3) := by decide +kernel
theorem dX7_isRead_18 : decode cX7_isRead 18 = .ok (.goto (-16), 3) := by decide +kernel
theorem dX7_isRead_21 : decode cX7_isRead 21 = .ok (.aload_n 0, 1) := by decide +kernel
theorem dX7_isRead_22 : decode cX7_isRead 22 = .ok (.iconst 0, 1) := by decide +kernel
theorem dX7_isRead_23 : decode cX7_isRead 23 = .ok (.putfield 84, 3) := by decide +kernel
theorem dX7_isRead_26 : decode cX7_isRead 26 = .ok (.aload_n 0, 1) := by decide +kernel
theorem dX7_isRead_27 : decode cX7_isRead 27 = .ok (.bipush 113, 2) := by decide +kernel
theorem dX7_isRead_29 : decode cX7_isRead 29 = .ok (.invokevirtual 109, 3) := by decide +kernel
theorem dX7_isRead_32 : decode cX7_isRead 32 = .ok (.ifCond .eq 13, 3) := by decide +kernel
theorem dX7_isRead_35 : decode cX7_isRead 35 = .ok (.aload_n 0, 1) := by decide +kernel
theorem dX7_isRead_36 : decode cX7_isRead 36 = .ok (.iconst 0, 1) := by decide +kernel
theorem dX7_isRead_37 : decode cX7_isRead 37 = .ok (.bipush 9, 2) := by decide +kernel
theorem dX7_isRead_39 : decode cX7_isRead 39 = .ok (.invokevirtual 105, 3) := by decide +kernel
theorem dX7_isRead_42 : decode cX7_isRead 42 = .ok (.ifCond .ne 5, 3) := by decide +kernel
theorem dX7_isRead_45 : decode cX7_isRead 45 = .ok (.iconst 0, 1) := by decide +kernel
theorem dX7_isRead_46 : decode cX7_isRead 46 = .ok (.ireturn, 1) := by decide +kernel
theorem dX7_isRead_47 : decode cX7_isRead 47 = .ok (.aload_n 0, 1) := by decide +kernel
theorem dX7_isRead_48 : decode cX7_isRead 48 = .ok (.getfield 25, 3) := by decide +kernel
theorem dX7_isRead_51 : decode cX7_isRead 51 = .ok (.iconst 1, 1) := by decide +kernel
theorem dX7_isRead_52 : decode cX7_isRead 52 = .ok (.aload_n 0, 1) := by decide +kernel
theorem dX7_isRead_53 : decode cX7_isRead 53 = .ok (.getfield 90, 3) := by decide +kernel
theorem dX7_isRead_56 : decode cX7_isRead 56 = .ok (.iastore, 1) := by decide +kernel
theorem dX7_isRead_57 : decode cX7_isRead 57 = .ok (.aload_n 0, 1) := by decide +kernel
theorem dX7_isRead_58 : decode cX7_isRead 58 = .ok (.bipush 59, 2) := by decide +kernel
theorem dX7_isRead_60 : decode cX7_isRead 60 = .ok (.invokevirtual 109, 3) := by decide +kernel
theorem dX7_isRead_63 : decode cX7_isRead 63 = .ok (.ifCond .ne 5, 3) := by decide +kernel
theorem dX7_isRead_66 : decode cX7_isRead 66 = .ok (.iconst 0, 1) := by decide +kernel
theorem dX7_isRead_67 : decode cX7_isRead 67 = .ok (.ireturn, 1) := by decide +kernel
theorem dX7_isRead_68 : decode cX7_isRead 68 = .ok (.aload_n 0, 1) := by decide +kernel
theorem dX7_isRead_69 : decode cX7_isRead 69 = .ok (.invokevirtual 99, 3) := by decide +kernel
theorem dX7_isRead_72 : decode cX7_isRead 72 = .ok (.aload_n 0, 1) := by decide +kernel
theorem dX7_isRead_73 : decode cX7_isRead 73 = .ok (.getfield 93, 3) := by decide +kernel
theorem dX7_isRead_76 : decode cX7_isRead 76 = .ok (.bipush (-2), 2) := by decide +kernel
theorem dX7_isRead_78 : decode cX7_isRead 78 = .ok (.if_icmp .ne 12, 3) := by decide +kernel
theorem dX7_isRead_81 : decode cX7_isRead 81 = .ok (.aload_n 0, 1) := by decide +kernel
theorem dX7_isRead_82 : decode cX7_isRead 82 = .ok (.getfield 25, 3) := by decide +kernel
theorem dX7_isRead_85 : decode cX7_isRead 85 = .ok (.iconst 2, 1) := by decide +kernel
theorem dX7_isRead_86 : decode cX7_isRead 86 = .ok (.iaload, 1) := by decide +kernel
theorem dX7_isRead_87 : decode cX7_isRead 87 = .ok (.ifCond .ne 19, 3) := by decide +kernel
theorem dX7_isRead_90 : decode cX7_isRead 90 = .ok (.aload_n 0, 1) := by decide +kernel
theorem dX7_isRead_91 : decode cX7_isRead 91 = .ok (.invokevirtual 119, 3) := by decide +kernel
theorem dX7_isRead_94 : decode cX7_isRead 94 = .ok (.ifCond .ne 5, 3) := by decide +kernel
theorem dX7_isRead_97 : decode cX7_isRead 97 = .ok (.iconst 0, 1) := by decide +kernel
theorem dX7_isRead_98 : decode cX7_isRead 98 = .ok (.ireturn, 1) := by decide +kernel
theorem dX7_isRead_99 : decode cX7_isRead 99 = .ok (.aload_n 0, 1) := by decide +kernel
theorem dX7_isRead_100 : decode cX7_isRead 100 = .ok (.invokevirtual 99, 3) := by decide +kernel
theorem dX7_isRead_103 : decode cX7_isRead 103 = .ok (.goto (-31), 3) := by decide +kernel
theorem dX7_isRead_106 : decode cX7_isRead 106 = .ok (.iconst 1, 1) := by decide +kernel
theorem dX7_isRead_107 : decode cX7_isRead 107 = .ok (.ireturn, 1) := by decide +kernel
theorem dX7_square_0 : decode cX7_square 0 = .ok (.aload_n 0, 1) := by decide +kernel
theorem dX7_square_1 : decode cX7_square 1 = .ok (.invokevirtual 123, 3) := by decide +kernel
theorem dX7_square_4 : decode cX7_square 4 = .ok (.istore_n 1, 1) := by decide +kernel
theorem dX7_square_5 : decode cX7_square 5 = .ok (.aload_n 0, 1) := by decide +kernel
theorem dX7_square_6 : decode cX7_square 6 = .ok (.iconst 0, 1) := by decide +kernel
theorem dX7_square_7 : decode cX7_square 7 = .ok (.putfield 80, 3) := by decide +kernel
theorem dX7_square_10 : decode cX7_square 10 = .ok (.iload_n 1, 1) := by decide +kernel
theorem dX7_square_11 : decode cX7_square 11 = .ok (.ifCond .ne 19, 3) := by decide +kernel
theorem dX7_square_14 : decode cX7_square 14 = .ok (.aload_n 0, 1) := by decide +kernel
theorem dX7_square_15 : decode cX7_square 15 = .ok (.aload_n 0, 1) := by decide +kernel
theorem dX7_square_16 : decode cX7_square 16 = .ok (.getfield 96, 3) := by decide +kernel
theorem dX7_square_19 : decode cX7_square 19 = .ok (.putfield 126, 3) := by decide +kernel
theorem dX7_square_22 : decode cX7_square 22 = .ok (.ldc 129, 2) := by decide +kernel
theorem dX7_square_24 : decode cX7_square 24 = .ok (.aload_n 0, 1) := by decide +kernel
theorem dX7_square_25 : decode cX7_square 25 = .ok (.getfield 87, 3) := by decide +kernel
theorem dX7_square_28 : decode cX7_square 28 = .ok (.isub, 1) := by decide +kernel
theorem dX7_square_29 : decode cX7_square 29 = .ok (.ireturn, 1) := by decide +kernel
theorem dX7_square_30 : decode cX7_square 30 = .ok (.aload_n 0, 1) := by decide +kernel
theorem dX7_square_31 : decode cX7_square 31 = .ok (.getfield 25, 3) := by decide +kernel
theorem dX7_square_34 : decode cX7_square 34 = .ok (.iconst 0, 1) := by decide +kernel
theorem dX7_square_35 : decode cX7_square 35 = .ok (.aload_n 0, 1) := by decide +kernel
theorem dX7_square_36 : decode cX7_square 36 = .ok (.getfield 22, 3) := by decide +kernel
theorem dX7_square_39 : decode cX7_square 39 = .ok (.iconst 0, 1) := by decide +kernel
theorem dX7_square_40 : decode cX7_square 40 = .ok (.invokestatic 130, 3) := by decide +kernel
theorem dX7_square_43 : decode cX7_square 43 = .ok (.aload_n 0, 1) := by decide +kernel
theorem dX7_square_44 : decode cX7_square 44 = .ok (.iconst 0, 1) := by decide +kernel
theorem dX7_square_45 : decode cX7_square 45 = .ok (.putfield 134, 3) := by decide +kernel
theorem dX7_square_48 : decode cX7_square 48 = .ok (.aload_n 0, 1) := by decide +kernel
theorem dX7_square_49 : decode cX7_square 49 = .ok (.getfield 22, 3) := by decide +kernel
theorem dX7_square_52 : decode cX7_square 52 = .ok (.iconst 3, 1) := by decide +kernel
theorem dX7_square_53 : decode cX7_square 53 = .ok (.iaload, 1) := by decide +kernel
theorem dX7_square_54 : decode cX7_square 54 = .ok (.ireturn, 1) := by decide +kernel
theorem dX7_fault_0 : decode cX7_fault 0 = .ok (.aload_n 0, 1) := by decide +kernel
theorem dX7_fault_1 : decode cX7_fault 1 = .ok (.getfield 126, 3) := by decide +kernel
theorem dX7_fault_4 : decode cX7_fault 4 = .ok (.ireturn, 1) := by decide +kernel
theorem dX7_note_0 : decode cX7_note 0 = .ok (.aload_n 0, 1) := by decide +kernel
theorem dX7_note_1 : decode cX7_note 1 = .ok (.getfield 134, 3) := by decide +kernel
theorem dX7_note_4 : decode cX7_note 4 = .ok (.bipush 24, 2) := by decide +kernel
theorem dX7_note_6 : decode cX7_note 6 = .ok (.if_icmp .ne 43, 3) := by decide +kernel
theorem dX7_note_9 : decode cX7_note 9 = .ok (.iconst 0, 1) := by decide +kernel
theorem dX7_note_10 : decode cX7_note 10 = .ok (.istore_n 1, 1) := by decide +kernel
theorem dX7_note_11 : decode cX7_note 11 = .ok (.iload_n 1, 1) := by decide +kernel
theorem dX7_note_12 : decode cX7_note 12 = .ok (.sipush 1081, 3) := by decide +kernel
theorem dX7_note_15 : decode cX7_note 15 = .ok (.if_icmp .ge 24, 3) := by decide +kernel
theorem dX7_note_18 : decode cX7_note 18 = .ok (.aload_n 0, 1) := by decide +kernel
theorem dX7_note_19 : decode cX7_note 19 = .ok (.getfield 38, 3) := by decide +kernel
theorem dX7_note_22 : decode cX7_note 22 = .ok (.iload_n 1, 1) := by decide +kernel
theorem dX7_note_23 : decode cX7_note 23 = .ok (.aload_n 0, 1) := by decide +kernel
theorem dX7_note_24 : decode cX7_note 24 = .ok (.getfield 38, 3) := by decide +kernel
theorem dX7_note_27 : decode cX7_note 27 = .ok (.iload_n 1, 1) := by decide +kernel
theorem dX7_note_28 : decode cX7_note 28 = .ok (.bipush 47, 2) := by decide +kernel
theorem dX7_note_30 : decode cX7_note 30 = .ok (.iadd, 1) := by decide +kernel
theorem dX7_note_31 : decode cX7_note 31 = .ok (.iaload, 1) := by decide +kernel
theorem dX7_note_32 : decode cX7_note 32 = .ok (.iastore, 1) := by decide +kernel
theorem dX7_note_33 : decode cX7_note 33 = .ok (.iinc 1 1, 3) := by decide +kernel
theorem dX7_note_36 : decode cX7_note 36 = .ok (.goto (-25), 3) := by decide +kernel
theorem dX7_note_39 : decode cX7_note 39 = .ok (.aload_n 0, 1) := by decide +kernel
theorem dX7_note_40 : decode cX7_note 40 = .ok (.dup, 1) := by decide +kernel
theorem dX7_note_41 : decode cX7_note 41 = .ok (.getfield 134, 3) := by decide +kernel
theorem dX7_note_44 : decode cX7_note 44 = .ok (.iconst 1, 1) := by decide +kernel
theorem dX7_note_45 : decode cX7_note 45 = .ok (.isub, 1) := by decide +kernel
theorem dX7_note_46 : decode cX7_note 46 = .ok (.putfield 134, 3) := by decide +kernel
theorem dX7_note_49 : decode cX7_note 49 = .ok (.aload_n 0, 1) := by decide +kernel
theorem dX7_note_50 : decode cX7_note 50 = .ok (.getfield 22, 3) := by decide +kernel
theorem dX7_note_53 : decode cX7_note 53 = .ok (.iconst 0, 1) := by decide +kernel
theorem dX7_note_54 : decode cX7_note 54 = .ok (.aload_n 0, 1) := by decide +kernel
theorem dX7_note_55 : decode cX7_note 55 = .ok (.getfield 38, 3) := by decide +kernel
theorem dX7_note_58 : decode cX7_note 58 = .ok (.bipush 47, 2) := by decide +kernel
theorem dX7_note_60 : decode cX7_note 60 = .ok (.aload_n 0, 1) := by decide +kernel
theorem dX7_note_61 : decode cX7_note 61 = .ok (.getfield 134, 3) := by decide +kernel
theorem dX7_note_64 : decode cX7_note 64 = .ok (.imul, 1) := by decide +kernel
theorem dX7_note_65 : decode cX7_note 65 = .ok (.invokestatic 130, 3) := by decide +kernel
theorem dX7_note_68 : decode cX7_note 68 = .ok (.aload_n 0, 1) := by decide +kernel
theorem dX7_note_69 : decode cX7_note 69 = .ok (.dup, 1) := by decide +kernel
theorem dX7_note_70 : decode cX7_note 70 = .ok (.getfield 134, 3) := by decide +kernel
theorem dX7_note_73 : decode cX7_note 73 = .ok (.iconst 1, 1) := by decide +kernel
theorem dX7_note_74 : decode cX7_note 74 = .ok (.iadd, 1) := by decide +kernel
theorem dX7_note_75 : decode cX7_note 75 = .ok (.putfield 134, 3) := by decide +kernel
theorem dX7_note_78 : decode cX7_note 78 = .ok (.return_, 1) := by decide +kernel
theorem dX7_hears_0 : decode cX7_hears 0 = .ok (.aload_n 0, 1) := by decide +kernel
theorem dX7_hears_1 : decode cX7_hears 1 = .ok (.bipush 32, 2) := by decide +kernel
theorem dX7_hears_3 : decode cX7_hears 3 = .ok (.iload_n 1, 1) := by decide +kernel
theorem dX7_hears_4 : decode cX7_hears 4 = .ok (.iadd, 1) := by decide +kernel
theorem dX7_hears_5 : decode cX7_hears 5 = .ok (.iaload, 1) := by decide +kernel
theorem dX7_hears_6 : decode cX7_hears 6 = .ok (.ifCond .eq 15, 3) := by decide +kernel
theorem dX7_hears_9 : decode cX7_hears 9 = .ok (.aload_n 0, 1) := by decide +kernel
theorem dX7_hears_10 : decode cX7_hears 10 = .ok (.bipush 10, 2) := by decide +kernel
theorem dX7_hears_12 : decode cX7_hears 12 = .ok (.iload_n 2, 1) := by decide +kernel
theorem dX7_hears_13 : decode cX7_hears 13 = .ok (.iadd, 1) := by decide +kernel
theorem dX7_hears_14 : decode cX7_hears 14 = .ok (.iaload, 1) := by decide +kernel
theorem dX7_hears_15 : decode cX7_hears 15 = .ok (.aload_n 0, 1) := by decide +kernel
theorem dX7_hears_16 : decode cX7_hears 16 = .ok (.iconst 1, 1) := by decide +kernel
theorem dX7_hears_17 : decode cX7_hears 17 = .ok (.iaload, 1) := by decide +kernel
theorem dX7_hears_18 : decode cX7_hears 18 = .ok (.if_icmp .le 7, 3) := by decide +kernel
theorem dX7_hears_21 : decode cX7_hears 21 = .ok (.iconst 1, 1) := by decide +kernel
theorem dX7_hears_22 : decode cX7_hears 22 = .ok (.goto 4, 3) := by decide +kernel
theorem dX7_hears_25 : decode cX7_hears 25 = .ok (.iconst 0, 1) := by decide +kernel
theorem dX7_hears_26 : decode cX7_hears 26 = .ok (.ireturn, 1) := by decide +kernel
theorem dX7_countedBy_0 : decode cX7_countedBy 0 = .ok (.aload_n 0, 1) := by decide +kernel
theorem dX7_countedBy_1 : decode cX7_countedBy 1 = .ok (.bipush 37, 2) := by decide +kernel
theorem dX7_countedBy_3 : decode cX7_countedBy 3 = .ok (.iload_n 1, 1) := by decide +kernel
theorem dX7_countedBy_4 : decode cX7_countedBy 4 = .ok (.iadd, 1) := by decide +kernel
theorem dX7_countedBy_5 : decode cX7_countedBy 5 = .ok (.iaload, 1) := by decide +kernel
theorem dX7_countedBy_6 : decode cX7_countedBy 6 = .ok (.istore_n 3, 1) := by decide +kernel
theorem dX7_countedBy_7 : decode cX7_countedBy 7 = .ok (.aload_n 0, 1) := by decide +kernel
theorem dX7_countedBy_8 : decode cX7_countedBy 8 = .ok (.bipush 16, 2) := by decide +kernel
theorem dX7_countedBy_10 : decode cX7_countedBy 10 = .ok (.iload_n 2, 1) := by decide +kernel
theorem dX7_countedBy_11 : decode cX7_countedBy 11 = .ok (.iadd, 1) := by decide +kernel
theorem dX7_countedBy_12 : decode cX7_countedBy 12 = .ok (.iaload, 1) := by decide +kernel
theorem dX7_countedBy_13 : decode cX7_countedBy 13 = .ok (.iconst 2, 1) := by decide +kernel
theorem dX7_countedBy_14 : decode cX7_countedBy 14 = .ok (.irem, 1) := by decide +kernel
theorem dX7_countedBy_15 : decode cX7_countedBy 15 = .ok (.ifCond .ne 7, 3) := by decide +kernel
theorem dX7_countedBy_18 : decode cX7_countedBy 18 = .ok (.iconst 1, 1) := by decide +kernel
theorem dX7_countedBy_19 : decode cX7_countedBy 19 = .ok (.goto 4, 3) := by decide +kernel
theorem dX7_countedBy_22 : decode cX7_countedBy 22 = .ok (.iconst 0, 1) := by decide +kernel
theorem dX7_countedBy_23 : decode cX7_countedBy 23 = .ok (.istore 4, 2) := by decide +kernel
theorem dX7_countedBy_25 : decode cX7_countedBy 25 = .ok (.aload_n 0, 1) := by decide +kernel
theorem dX7_countedBy_26 : decode cX7_countedBy 26 = .ok (.bipush 16, 2) := by decide +kernel
theorem dX7_countedBy_28 : decode cX7_countedBy 28 = .ok (.iload_n 2, 1) := by decide +kernel
theorem dX7_countedBy_29 : decode cX7_countedBy 29 = .ok (.iadd, 1) := by decide +kernel
theorem dX7_countedBy_30 : decode cX7_countedBy 30 = .ok (.iaload, 1) := by decide +kernel
theorem dX7_countedBy_31 : decode cX7_countedBy 31 = .ok (.iconst 1, 1) := by decide +kernel
theorem dX7_countedBy_32 : decode cX7_countedBy 32 = .ok (.if_icmp .le 7, 3) := by decide +kernel
theorem dX7_countedBy_35 : decode cX7_countedBy 35 = .ok (.iconst 1, 1) := by decide +kernel
theorem dX7_countedBy_36 : decode cX7_countedBy 36 = .ok (.goto 4, 3) := by decide +kernel
theorem dX7_countedBy_39 : decode cX7_countedBy 39 = .ok (.iconst 0, 1) := by decide +kernel
theorem dX7_countedBy_40 : decode cX7_countedBy 40 = .ok (.istore 5, 2) := by decide +kernel
theorem dX7_countedBy_42 : decode cX7_countedBy 42 = .ok (.iconst 1, 1) := by decide +kernel
theorem dX7_countedBy_43 : decode cX7_countedBy 43 = .ok (.istore 6, 2) := by decide +kernel
theorem dX7_countedBy_45 : decode cX7_countedBy 45 = .ok (.aload_n 0, 1) := by decide +kernel
theorem dX7_countedBy_46 : decode cX7_countedBy 46 = .ok (.bipush 22, 2) := by decide +kernel
theorem dX7_countedBy_48 : decode cX7_countedBy 48 = .ok (.iload_n 1, 1) := by decide +kernel
theorem dX7_countedBy_49 : decode cX7_countedBy 49 = .ok (.iadd, 1) := by decide +kernel
theorem dX7_countedBy_50 : decode cX7_countedBy 50 = .ok (.iaload, 1) := by decide +kernel
theorem dX7_countedBy_51 : decode cX7_countedBy 51 = .ok (.tableswitch 75 2 5 #[29, 44, 59, 59], 29) := by decide +kernel
theorem dX7_countedBy_80 : decode cX7_countedBy 80 = .ok (.iload 4, 2) := by decide +kernel
theorem dX7_countedBy_82 : decode cX7_countedBy 82 = .ok (.ifCond .eq 7, 3) := by decide +kernel
theorem dX7_countedBy_85 : decode cX7_countedBy 85 = .ok (.iconst 2, 1) := by decide +kernel
theorem dX7_countedBy_86 : decode cX7_countedBy 86 = .ok (.goto 4, 3) := by decide +kernel
theorem dX7_countedBy_89 : decode cX7_countedBy 89 = .ok (.iconst 1, 1) := by decide +kernel
theorem dX7_countedBy_90 : decode cX7_countedBy 90 = .ok (.istore 6, 2) := by decide +kernel
theorem dX7_countedBy_92 : decode cX7_countedBy 92 = .ok (.goto 34, 3) := by decide +kernel
theorem dX7_countedBy_95 : decode cX7_countedBy 95 = .ok (.iload 5, 2) := by decide +kernel
theorem dX7_countedBy_97 : decode cX7_countedBy 97 = .ok (.ifCond .eq 7, 3) := by decide +kernel
theorem dX7_countedBy_100 : decode cX7_countedBy 100 = .ok (.iconst 0, 1) := by decide +kernel
theorem dX7_countedBy_101 : decode cX7_countedBy 101 = .ok (.goto 4, 3) := by decide +kernel
theorem dX7_countedBy_104 : decode cX7_countedBy 104 = .ok (.iconst 1, 1) := by decide +kernel
theorem dX7_countedBy_105 : decode cX7_countedBy 105 = .ok (.istore 6, 2) := by decide +kernel
theorem dX7_countedBy_107 : decode cX7_countedBy 107 = .ok (.goto 19, 3) := by decide +kernel
theorem dX7_countedBy_110 : decode cX7_countedBy 110 = .ok (.iload 5, 2) := by decide +kernel
theorem dX7_countedBy_112 : decode cX7_countedBy 112 = .ok (.ifCond .eq 8, 3) := by decide +kernel
theorem dX7_countedBy_115 : decode cX7_countedBy 115 = .ok (.iload_n 3, 1) := by decide +kernel
theorem dX7_countedBy_116 : decode cX7_countedBy 116 = .ok (.ineg, 1) := by decide +kernel
theorem dX7_countedBy_117 : decode cX7_countedBy 117 = .ok (.goto 4, 3) := by decide +kernel
theorem dX7_countedBy_120 : decode cX7_countedBy 120 = .ok (.iconst 1, 1) := by decide +kernel
theorem dX7_countedBy_121 : decode cX7_countedBy 121 = .ok (.istore 6, 2) := by decide +kernel
theorem dX7_countedBy_123 : decode cX7_countedBy 123 = .ok (.goto 3, 3) := by decide +kernel
theorem dX7_countedBy_126 : decode cX7_countedBy 126 = .ok (.iload_n 3, 1) := by decide +kernel
theorem dX7_countedBy_127 : decode cX7_countedBy 127 = .ok (.iload 6, 2) := by decide +kernel
theorem dX7_countedBy_129 : decode cX7_countedBy 129 = .ok (.iadd, 1) := by decide +kernel
theorem dX7_countedBy_130 : decode cX7_countedBy 130 = .ok (.bipush 99, 2) := by decide +kernel
theorem dX7_countedBy_132 : decode cX7_countedBy 132 = .ok (.if_icmp .le 8, 3) := by decide +kernel
theorem dX7_countedBy_135 : decode cX7_countedBy 135 = .ok (.bipush 99, 2) := by decide +kernel
theorem dX7_countedBy_137 : decode cX7_countedBy 137 = .ok (.goto 7, 3) := by decide +kernel
theorem dX7_countedBy_140 : decode cX7_countedBy 140 = .ok (.iload_n 3, 1) := by decide +kernel
theorem dX7_countedBy_141 : decode cX7_countedBy 141 = .ok (.iload 6, 2) := by decide +kernel
theorem dX7_countedBy_143 : decode cX7_countedBy 143 = .ok (.iadd, 1) := by decide +kernel
theorem dX7_countedBy_144 : decode cX7_countedBy 144 = .ok (.ireturn, 1) := by decide +kernel
theorem dX7_pass_0 : decode cX7_pass 0 = .ok (.aload_n 0, 1) := by decide +kernel
theorem dX7_pass_1 : decode cX7_pass 1 = .ok (.iconst 0, 1) := by decide +kernel
theorem dX7_pass_2 : decode cX7_pass 2 = .ok (.iaload, 1) := by decide +kernel
theorem dX7_pass_3 : decode cX7_pass 3 = .ok (.iload_n 1, 1) := by decide +kernel
theorem dX7_pass_4 : decode cX7_pass 4 = .ok (.invokestatic 137, 3) := by decide +kernel
theorem dX7_pass_7 : decode cX7_pass 7 = .ok (.irem, 1) := by decide +kernel
theorem dX7_pass_8 : decode cX7_pass 8 = .ok (.istore_n 2, 1) := by decide +kernel
theorem dX7_pass_9 : decode cX7_pass 9 = .ok (.iconst 0, 1) := by decide +kernel
theorem dX7_pass_10 : decode cX7_pass 10 = .ok (.istore_n 3, 1) := by decide +kernel
theorem dX7_pass_11 : decode cX7_pass 11 = .ok (.iconst 0, 1) := by decide +kernel
theorem dX7_pass_12 : decode cX7_pass 12 = .ok (.istore 4, 2) := by decide +kernel
theorem dX7_pass_14 : decode cX7_pass 14 = .ok (.iload 4, 2) := by decide +kernel
theorem dX7_pass_16 : decode cX7_pass 16 = .ok (.aload_n 0, 1) := by decide +kernel
theorem dX7_pass_17 : decode cX7_pass 17 = .ok (.iconst 2, 1) := by decide +kernel
theorem dX7_pass_18 : decode cX7_pass 18 = .ok (.iaload, 1) := by decide +kernel
theorem dX7_pass_19 : decode cX7_pass 19 = .ok (.if_icmp .ge 40, 3) := by decide +kernel
theorem dX7_pass_22 : decode cX7_pass 22 = .ok (.iload_n 1, 1) := by decide +kernel
theorem dX7_pass_23 : decode cX7_pass 23 = .ok (.aload_n 0, 1) := by decide +kernel
theorem dX7_pass_24 : decode cX7_pass 24 = .ok (.iconst 4, 1) := by decide +kernel
theorem dX7_pass_25 : decode cX7_pass 25 = .ok (.iload 4, 2) := by decide +kernel
theorem dX7_pass_27 : decode cX7_pass 27 = .ok (.iadd, 1) := by decide +kernel
theorem dX7_pass_28 : decode cX7_pass 28 = .ok (.iaload, 1) := by decide +kernel
theorem dX7_pass_29 : decode cX7_pass 29 = .ok (.invokestatic 140, 3) := by decide +kernel
theorem dX7_pass_32 : decode cX7_pass 32 = .ok (.ifCond .eq 21, 3) := by decide +kernel
theorem dX7_pass_35 : decode cX7_pass 35 = .ok (.iload_n 2, 1) := by decide +kernel
theorem dX7_pass_36 : decode cX7_pass 36 = .ok (.ifCond .ne 12, 3) := by decide +kernel
theorem dX7_pass_39 : decode cX7_pass 39 = .ok (.aload_n 0, 1) := by decide +kernel
theorem dX7_pass_40 : decode cX7_pass 40 = .ok (.iconst 4, 1) := by decide +kernel
theorem dX7_pass_41 : decode cX7_pass 41 = .ok (.iload 4, 2) := by decide +kernel
theorem dX7_pass_43 : decode cX7_pass 43 = .ok (.iadd, 1) := by decide +kernel
theorem dX7_pass_44 : decode cX7_pass 44 = .ok (.iaload, 1) := by decide +kernel
theorem dX7_pass_45 : decode cX7_pass 45 = .ok (.goto 4, 3) := by decide +kernel
theorem dX7_pass_48 : decode cX7_pass 48 = .ok (.iload_n 3, 1) := by decide +kernel
theorem dX7_pass_49 : decode cX7_pass 49 = .ok (.istore_n 3, 1) := by decide +kernel
theorem dX7_pass_50 : decode cX7_pass 50 = .ok (.iinc 2 (-1), 3) := by decide +kernel
theorem dX7_pass_53 : decode cX7_pass 53 = .ok (.iinc 4 1, 3) := by decide +kernel
theorem dX7_pass_56 : decode cX7_pass 56 = .ok (.goto (-42), 3) := by decide +kernel
theorem dX7_pass_59 : decode cX7_pass 59 = .ok (.aload_n 0, 1) := by decide +kernel
theorem dX7_pass_60 : decode cX7_pass 60 = .ok (.iconst 0, 1) := by decide +kernel
theorem dX7_pass_61 : decode cX7_pass 61 = .ok (.dup2, 1) := by decide +kernel
theorem dX7_pass_62 : decode cX7_pass 62 = .ok (.iaload, 1) := by decide +kernel
theorem dX7_pass_63 : decode cX7_pass 63 = .ok (.iconst 1, 1) := by decide +kernel
theorem dX7_pass_64 : decode cX7_pass 64 = .ok (.iadd, 1) := by decide +kernel
theorem dX7_pass_65 : decode cX7_pass 65 = .ok (.iastore, 1) := by decide +kernel
theorem dX7_pass_66 : decode cX7_pass 66 = .ok (.iconst 0, 1) := by decide +kernel
theorem dX7_pass_67 : decode cX7_pass 67 = .ok (.istore 4, 2) := by decide +kernel
theorem dX7_pass_69 : decode cX7_pass 69 = .ok (.iload 4, 2) := by decide +kernel
theorem dX7_pass_71 : decode cX7_pass 71 = .ok (.aload_n 0, 1) := by decide +kernel
theorem dX7_pass_72 : decode cX7_pass 72 = .ok (.iconst 3, 1) := by decide +kernel
theorem dX7_pass_73 : decode cX7_pass 73 = .ok (.iaload, 1) := by decide +kernel
theorem dX7_pass_74 : decode cX7_pass 74 = .ok (.if_icmp .ge 119, 3) := by decide +kernel
theorem dX7_pass_77 : decode cX7_pass 77 = .ok (.aload_n 0, 1) := by decide +kernel
theorem dX7_pass_78 : decode cX7_pass 78 = .ok (.iload 4, 2) := by decide +kernel
theorem dX7_pass_80 : decode cX7_pass 80 = .ok (.iload_n 3, 1) := by decide +kernel
theorem dX7_pass_81 : decode cX7_pass 81 = .ok (.invokestatic 143, 3) := by decide +kernel
theorem dX7_pass_84 : decode cX7_pass 84 = .ok (.ifCond .eq 68, 3) := by decide +kernel
theorem dX7_pass_87 : decode cX7_pass 87 = .ok (.aload_n 0, 1) := by decide +kernel
theorem dX7_pass_88 : decode cX7_pass 88 = .ok (.bipush 37, 2) := by decide +kernel
theorem dX7_pass_90 : decode cX7_pass 90 = .ok (.iload 4, 2) := by decide +kernel
theorem dX7_pass_92 : decode cX7_pass 92 = .ok (.iadd, 1) := by decide +kernel
theorem dX7_pass_93 : decode cX7_pass 93 = .ok (.aload_n 0, 1) := by decide +kernel
theorem dX7_pass_94 : decode cX7_pass 94 = .ok (.iload 4, 2) := by decide +kernel
theorem dX7_pass_96 : decode cX7_pass 96 = .ok (.iload_n 3, 1) := by decide +kernel
theorem dX7_pass_97 : decode cX7_pass 97 = .ok (.invokestatic 147, 3) := by decide +kernel
theorem dX7_pass_100 : decode cX7_pass 100 = .ok (.iastore, 1) := by decide +kernel
theorem dX7_pass_101 : decode cX7_pass 101 = .ok (.aload_n 0, 1) := by decide +kernel
theorem dX7_pass_102 : decode cX7_pass 102 = .ok (.bipush 22, 2) := by decide +kernel
theorem dX7_pass_104 : decode cX7_pass 104 = .ok (.iload 4, 2) := by decide +kernel
theorem dX7_pass_106 : decode cX7_pass 106 = .ok (.iadd, 1) := by decide +kernel
theorem dX7_pass_107 : decode cX7_pass 107 = .ok (.iaload, 1) := by decide +kernel
theorem dX7_pass_108 : decode cX7_pass 108 = .ok (.iconst 5, 1) := by decide +kernel
theorem dX7_pass_109 : decode cX7_pass 109 = .ok (.if_icmp .ne 17, 3) := by decide +kernel
theorem dX7_pass_112 : decode cX7_pass 112 = .ok (.aload_n 0, 1) := by decide +kernel
theorem dX7_pass_113 : decode cX7_pass 113 = .ok (.bipush 16, 2) := by decide +kernel
theorem dX7_pass_115 : decode cX7_pass 115 = .ok (.iload_n 3, 1) := by decide +kernel
theorem dX7_pass_116 : decode cX7_pass 116 = .ok (.iadd, 1) := by decide +kernel
theorem dX7_pass_117 : decode cX7_pass 117 = .ok (.iaload, 1) := by decide +kernel
theorem dX7_pass_118 : decode cX7_pass 118 = .ok (.iconst 1, 1) := by decide +kernel
theorem dX7_pass_119 : decode cX7_pass 119 = .ok (.if_icmp .le 7, 3) := by decide +kernel
theorem dX7_pass_122 : decode cX7_pass 122 = .ok (.iconst 1, 1) := by decide +kernel
theorem dX7_pass_123 : decode cX7_pass 123 = .ok (.goto 4, 3) := by decide +kernel
theorem dX7_pass_126 : decode cX7_pass 126 = .ok (.iconst 0, 1) := by decide +kernel
theorem dX7_pass_127 : decode cX7_pass 127 = .ok (.istore 5, 2) := by decide +kernel
theorem dX7_pass_129 : decode cX7_pass 129 = .ok (.aload_n 0, 1) := by decide +kernel
theorem dX7_pass_130 : decode cX7_pass 130 = .ok (.bipush 42, 2) := by decide +kernel
theorem dX7_pass_132 : decode cX7_pass 132 = .ok (.iload 4, 2) := by decide +kernel
theorem dX7_pass_134 : decode cX7_pass 134 = .ok (.iadd, 1) := by decide +kernel
theorem dX7_pass_135 : decode cX7_pass 135 = .ok (.iload 5, 2) := by decide +kernel
theorem dX7_pass_137 : decode cX7_pass 137 = .ok (.ifCond .eq 7, 3) := by decide +kernel
theorem dX7_pass_140 : decode cX7_pass 140 = .ok (.iconst 0, 1) := by decide +kernel
theorem dX7_pass_141 : decode cX7_pass 141 = .ok (.goto 10, 3) := by decide +kernel
theorem dX7_pass_144 : decode cX7_pass 144 = .ok (.aload_n 0, 1) := by decide +kernel
theorem dX7_pass_145 : decode cX7_pass 145 = .ok (.bipush 42, 2) := by decide +kernel
theorem dX7_pass_147 : decode cX7_pass 147 = .ok (.iload 4, 2) := by decide +kernel
theorem dX7_pass_149 : decode cX7_pass 149 = .ok (.iadd, 1) := by decide +kernel
theorem dX7_pass_150 : decode cX7_pass 150 = .ok (.iaload, 1) := by decide +kernel
theorem dX7_pass_151 : decode cX7_pass 151 = .ok (.iastore, 1) := by decide +kernel
theorem dX7_pass_152 : decode cX7_pass 152 = .ok (.aload_n 0, 1) := by decide +kernel
theorem dX7_pass_153 : decode cX7_pass 153 = .ok (.bipush 42, 2) := by decide +kernel
theorem dX7_pass_155 : decode cX7_pass 155 = .ok (.iload 4, 2) := by decide +kernel
theorem dX7_pass_157 : decode cX7_pass 157 = .ok (.iadd, 1) := by decide +kernel
theorem dX7_pass_158 : decode cX7_pass 158 = .ok (.aload_n 0, 1) := by decide +kernel
theorem dX7_pass_159 : decode cX7_pass 159 = .ok (.bipush 37, 2) := by decide +kernel
theorem dX7_pass_161 : decode cX7_pass 161 = .ok (.iload 4, 2) := by decide +kernel
theorem dX7_pass_163 : decode cX7_pass 163 = .ok (.iadd, 1) := by decide +kernel
theorem dX7_pass_164 : decode cX7_pass 164 = .ok (.iaload, 1) := by decide +kernel
theorem dX7_pass_165 : decode cX7_pass 165 = .ok (.aload_n 0, 1) := by decide +kernel
theorem dX7_pass_166 : decode cX7_pass 166 = .ok (.bipush 27, 2) := by decide +kernel
theorem dX7_pass_168 : decode cX7_pass 168 = .ok (.iload 4, 2) := by decide +kernel
theorem dX7_pass_170 : decode cX7_pass 170 = .ok (.iadd, 1) := by decide +kernel
theorem dX7_pass_171 : decode cX7_pass 171 = .ok (.iaload, 1) := by decide +kernel
theorem dX7_pass_172 : decode cX7_pass 172 = .ok (.if_icmp .lt 7, 3) := by decide +kernel
theorem dX7_pass_175 : decode cX7_pass 175 = .ok (.iconst 1, 1) := by decide +kernel
theorem dX7_pass_176 : decode cX7_pass 176 = .ok (.goto 10, 3) := by decide +kernel
theorem dX7_pass_179 : decode cX7_pass 179 = .ok (.aload_n 0, 1) := by decide +kernel
theorem dX7_pass_180 : decode cX7_pass 180 = .ok (.bipush 42, 2) := by decide +kernel
theorem dX7_pass_182 : decode cX7_pass 182 = .ok (.iload 4, 2) := by decide +kernel
theorem dX7_pass_184 : decode cX7_pass 184 = .ok (.iadd, 1) := by decide +kernel
theorem dX7_pass_185 : decode cX7_pass 185 = .ok (.iaload, 1) := by decide +kernel
theorem dX7_pass_186 : decode cX7_pass 186 = .ok (.iastore, 1) := by decide +kernel
theorem dX7_pass_187 : decode cX7_pass 187 = .ok (.iinc 4 1, 3) := by decide +kernel
theorem dX7_pass_190 : decode cX7_pass 190 = .ok (.goto (-121), 3) := by decide +kernel
theorem dX7_pass_193 : decode cX7_pass 193 = .ok (.return_, 1) := by decide +kernel
theorem dX7_offOf_0 : decode cX7_offOf 0 = .ok (.iconst 0, 1) := by decide +kernel
theorem dX7_offOf_1 : decode cX7_offOf 1 = .ok (.istore_n 1, 1) := by decide +kernel
theorem dX7_offOf_2 : decode cX7_offOf 2 = .ok (.iconst 0, 1) := by decide +kernel
theorem dX7_offOf_3 : decode cX7_offOf 3 = .ok (.istore_n 2, 1) := by decide +kernel
theorem dX7_offOf_4 : decode cX7_offOf 4 = .ok (.iload_n 2, 1) := by decide +kernel
theorem dX7_offOf_5 : decode cX7_offOf 5 = .ok (.aload_n 0, 1) := by decide +kernel
theorem dX7_offOf_6 : decode cX7_offOf 6 = .ok (.iconst 3, 1) := by decide +kernel
theorem dX7_offOf_7 : decode cX7_offOf 7 = .ok (.iaload, 1) := by decide +kernel
theorem dX7_offOf_8 : decode cX7_offOf 8 = .ok (.if_icmp .ge 20, 3) := by decide +kernel
theorem dX7_offOf_11 : decode cX7_offOf 11 = .ok (.iload_n 1, 1) := by decide +kernel
theorem dX7_offOf_12 : decode cX7_offOf 12 = .ok (.aload_n 0, 1) := by decide +kernel
theorem dX7_offOf_13 : decode cX7_offOf 13 = .ok (.bipush 42, 2) := by decide +kernel
theorem dX7_offOf_15 : decode cX7_offOf 15 = .ok (.iload_n 2, 1) := by decide +kernel
theorem dX7_offOf_16 : decode cX7_offOf 16 = .ok (.iadd, 1) := by decide +kernel
theorem dX7_offOf_17 : decode cX7_offOf 17 = .ok (.iaload, 1) := by decide +kernel
theorem dX7_offOf_18 : decode cX7_offOf 18 = .ok (.iload_n 2, 1) := by decide +kernel
theorem dX7_offOf_19 : decode cX7_offOf 19 = .ok (.ishl, 1) := by decide +kernel
theorem dX7_offOf_20 : decode cX7_offOf 20 = .ok (.ior, 1) := by decide +kernel
theorem dX7_offOf_21 : decode cX7_offOf 21 = .ok (.istore_n 1, 1) := by decide +kernel
theorem dX7_offOf_22 : decode cX7_offOf 22 = .ok (.iinc 2 1, 3) := by decide +kernel
theorem dX7_offOf_25 : decode cX7_offOf 25 = .ok (.goto (-21), 3) := by decide +kernel
theorem dX7_offOf_28 : decode cX7_offOf 28 = .ok (.iload_n 1, 1) := by decide +kernel
theorem dX7_offOf_29 : decode cX7_offOf 29 = .ok (.ireturn, 1) := by decide +kernel
theorem dX7_flock_0 : decode cX7_flock 0 = .ok (.iconst 1, 1) := by decide +kernel
theorem dX7_flock_1 : decode cX7_flock 1 = .ok (.aload_n 0, 1) := by decide +kernel
theorem dX7_flock_2 : decode cX7_flock 2 = .ok (.getfield 22, 3) := by decide +kernel
theorem dX7_flock_5 : decode cX7_flock 5 = .ok (.iconst 2, 1) := by decide +kernel
theorem dX7_flock_6 : decode cX7_flock 6 = .ok (.iaload, 1) := by decide +kernel
theorem dX7_flock_7 : decode cX7_flock 7 = .ok (.ishl, 1) := by decide +kernel
theorem dX7_flock_8 : decode cX7_flock 8 = .ok (.iconst 1, 1) := by decide +kernel
theorem dX7_flock_9 : decode cX7_flock 9 = .ok (.isub, 1) := by decide +kernel
theorem dX7_flock_10 : decode cX7_flock 10 = .ok (.ireturn, 1) := by decide +kernel
theorem dX7_steps_0 : decode cX7_steps 0 = .ok (.aload_n 0, 1) := by decide +kernel
theorem dX7_steps_1 : decode cX7_steps 1 = .ok (.invokevirtual 151, 3) := by decide +kernel
theorem dX7_steps_4 : decode cX7_steps 4 = .ok (.ifCond .ne 6, 3) := by decide +kernel
theorem dX7_steps_7 : decode cX7_steps 7 = .ok (.ldc 154, 2) := by decide +kernel
theorem dX7_steps_9 : decode cX7_steps 9 = .ok (.ireturn, 1) := by decide +kernel
theorem dX7_steps_10 : decode cX7_steps 10 = .ok (.iload_n 1, 1) := by decide +kernel
theorem dX7_steps_11 : decode cX7_steps 11 = .ok (.iconst 1, 1) := by decide +kernel
theorem dX7_steps_12 : decode cX7_steps 12 = .ok (.bipush 24, 2) := by decide +kernel
theorem dX7_steps_14 : decode cX7_steps 14 = .ok (.invokestatic 56, 3) := by decide +kernel
theorem dX7_steps_17 : decode cX7_steps 17 = .ok (.ifCond .ne 6, 3) := by decide +kernel
theorem dX7_steps_20 : decode cX7_steps 20 = .ok (.ldc 69, 2) := by decide +kernel
theorem dX7_steps_22 : decode cX7_steps 22 = .ok (.ireturn, 1) := by decide +kernel
theorem dX7_steps_23 : decode cX7_steps 23 = .ok (.aload_n 0, 1) := by decide +kernel
theorem dX7_steps_24 : decode cX7_steps 24 = .ok (.getfield 22, 3) := by decide +kernel
theorem dX7_steps_27 : decode cX7_steps 27 = .ok (.iconst 0, 1) := by decide +kernel
theorem dX7_steps_28 : decode cX7_steps 28 = .ok (.iaload, 1) := by decide +kernel
theorem dX7_steps_29 : decode cX7_steps 29 = .ok (.iload_n 1, 1) := by decide +kernel
theorem dX7_steps_30 : decode cX7_steps 30 = .ok (.iadd, 1) := by decide +kernel
theorem dX7_steps_31 : decode cX7_steps 31 = .ok (.sipush 9999, 3) := by decide +kernel
theorem dX7_steps_34 : decode cX7_steps 34 = .ok (.if_icmp .le 6, 3) := by decide +kernel
theorem dX7_steps_37 : decode cX7_steps 37 = .ok (.ldc 83, 2) := by decide +kernel
theorem dX7_steps_39 : decode cX7_steps 39 = .ok (.ireturn, 1) := by decide +kernel
theorem dX7_steps_40 : decode cX7_steps 40 = .ok (.iconst 0, 1) := by decide +kernel
theorem dX7_steps_41 : decode cX7_steps 41 = .ok (.istore_n 2, 1) := by decide +kernel
theorem dX7_steps_42 : decode cX7_steps 42 = .ok (.iload_n 2, 1) := by decide +kernel
theorem dX7_steps_43 : decode cX7_steps 43 = .ok (.iload_n 1, 1) := by decide +kernel
theorem dX7_steps_44 : decode cX7_steps 44 = .ok (.if_icmp .ge 24, 3) := by decide +kernel
theorem dX7_steps_47 : decode cX7_steps 47 = .ok (.aload_n 0, 1) := by decide +kernel
theorem dX7_steps_48 : decode cX7_steps 48 = .ok (.invokevirtual 155, 3) := by decide +kernel
theorem dX7_steps_51 : decode cX7_steps 51 = .ok (.aload_n 0, 1) := by decide +kernel
theorem dX7_steps_52 : decode cX7_steps 52 = .ok (.getfield 22, 3) := by decide +kernel
theorem dX7_steps_55 : decode cX7_steps 55 = .ok (.aload_n 0, 1) := by decide +kernel
theorem dX7_steps_56 : decode cX7_steps 56 = .ok (.invokevirtual 158, 3) := by decide +kernel
theorem dX7_steps_59 : decode cX7_steps 59 = .ok (.invokestatic 162, 3) := by decide +kernel
theorem dX7_steps_62 : decode cX7_steps 62 = .ok (.iinc 2 1, 3) := by decide +kernel
theorem dX7_steps_65 : decode cX7_steps 65 = .ok (.goto (-23), 3) := by decide +kernel
theorem dX7_steps_68 : decode cX7_steps 68 = .ok (.aload_n 0, 1) := by decide +kernel
theorem dX7_steps_69 : decode cX7_steps 69 = .ok (.getfield 22, 3) := by decide +kernel
theorem dX7_steps_72 : decode cX7_steps 72 = .ok (.invokestatic 166, 3) := by decide +kernel
theorem dX7_steps_75 : decode cX7_steps 75 = .ok (.ireturn, 1) := by decide +kernel
theorem dX7_change_0 : decode cX7_change 0 = .ok (.iload_n 1, 1) := by decide +kernel
theorem dX7_change_1 : decode cX7_change 1 = .ok (.iconst 0, 1) := by decide +kernel
theorem dX7_change_2 : decode cX7_change 2 = .ok (.aload_n 0, 1) := by decide +kernel
theorem dX7_change_3 : decode cX7_change 3 = .ok (.getfield 22, 3) := by decide +kernel
theorem dX7_change_6 : decode cX7_change 6 = .ok (.iconst 2, 1) := by decide +kernel
theorem dX7_change_7 : decode cX7_change 7 = .ok (.iaload, 1) := by decide +kernel
theorem dX7_change_8 : decode cX7_change 8 = .ok (.iconst 1, 1) := by decide +kernel
theorem dX7_change_9 : decode cX7_change 9 = .ok (.isub, 1) := by decide +kernel
theorem dX7_change_10 : decode cX7_change 10 = .ok (.invokestatic 56, 3) := by decide +kernel
theorem dX7_change_13 : decode cX7_change 13 = .ok (.ifCond .ne 6, 3) := by decide +kernel
theorem dX7_change_16 : decode cX7_change 16 = .ok (.ldc 69, 2) := by decide +kernel
theorem dX7_change_18 : decode cX7_change 18 = .ok (.ireturn, 1) := by decide +kernel
theorem dX7_change_19 : decode cX7_change 19 = .ok (.iload_n 1, 1) := by decide +kernel
theorem dX7_change_20 : decode cX7_change 20 = .ok (.aload_n 0, 1) := by decide +kernel
theorem dX7_change_21 : decode cX7_change 21 = .ok (.getfield 22, 3) := by decide +kernel
theorem dX7_change_24 : decode cX7_change 24 = .ok (.iconst 2, 1) := by decide +kernel
theorem dX7_change_25 : decode cX7_change 25 = .ok (.iaload, 1) := by decide +kernel
theorem dX7_change_26 : decode cX7_change 26 = .ok (.iconst 1, 1) := by decide +kernel
theorem dX7_change_27 : decode cX7_change 27 = .ok (.isub, 1) := by decide +kernel
theorem dX7_change_28 : decode cX7_change 28 = .ok (.if_icmp .ne 6, 3) := by decide +kernel
theorem dX7_change_31 : decode cX7_change 31 = .ok (.ldc 154, 2) := by decide +kernel
theorem dX7_change_33 : decode cX7_change 33 = .ok (.ireturn, 1) := by decide +kernel
theorem dX7_change_34 : decode cX7_change 34 = .ok (.aload_n 0, 1) := by decide +kernel
theorem dX7_change_35 : decode cX7_change 35 = .ok (.invokevirtual 155, 3) := by decide +kernel
theorem dX7_change_38 : decode cX7_change 38 = .ok (.aload_n 0, 1) := by decide +kernel
theorem dX7_change_39 : decode cX7_change 39 = .ok (.getfield 22, 3) := by decide +kernel
theorem dX7_change_42 : decode cX7_change 42 = .ok (.iconst 4, 1) := by decide +kernel
theorem dX7_change_43 : decode cX7_change 43 = .ok (.iload_n 1, 1) := by decide +kernel
theorem dX7_change_44 : decode cX7_change 44 = .ok (.iadd, 1) := by decide +kernel
theorem dX7_change_45 : decode cX7_change 45 = .ok (.iaload, 1) := by decide +kernel
theorem dX7_change_46 : decode cX7_change 46 = .ok (.istore_n 2, 1) := by decide +kernel
theorem dX7_change_47 : decode cX7_change 47 = .ok (.aload_n 0, 1) := by decide +kernel
theorem dX7_change_48 : decode cX7_change 48 = .ok (.getfield 22, 3) := by decide +kernel
theorem dX7_change_51 : decode cX7_change 51 = .ok (.iconst 4, 1) := by decide +kernel
theorem dX7_change_52 : decode cX7_change 52 = .ok (.iload_n 1, 1) := by decide +kernel
theorem dX7_change_53 : decode cX7_change 53 = .ok (.iadd, 1) := by decide +kernel
theorem dX7_change_54 : decode cX7_change 54 = .ok (.aload_n 0, 1) := by decide +kernel
theorem dX7_change_55 : decode cX7_change 55 = .ok (.getfield 22, 3) := by decide +kernel
theorem dX7_change_58 : decode cX7_change 58 = .ok (.iconst 4, 1) := by decide +kernel
theorem dX7_change_59 : decode cX7_change 59 = .ok (.iload_n 1, 1) := by decide +kernel
theorem dX7_change_60 : decode cX7_change 60 = .ok (.iadd, 1) := by decide +kernel
theorem dX7_change_61 : decode cX7_change 61 = .ok (.iconst 1, 1) := by decide +kernel
theorem dX7_change_62 : decode cX7_change 62 = .ok (.iadd, 1) := by decide +kernel
theorem dX7_change_63 : decode cX7_change 63 = .ok (.iaload, 1) := by decide +kernel
theorem dX7_change_64 : decode cX7_change 64 = .ok (.iastore, 1) := by decide +kernel
theorem dX7_change_65 : decode cX7_change 65 = .ok (.aload_n 0, 1) := by decide +kernel
theorem dX7_change_66 : decode cX7_change 66 = .ok (.getfield 22, 3) := by decide +kernel
theorem dX7_change_69 : decode cX7_change 69 = .ok (.iconst 4, 1) := by decide +kernel
theorem dX7_change_70 : decode cX7_change 70 = .ok (.iload_n 1, 1) := by decide +kernel
theorem dX7_change_71 : decode cX7_change 71 = .ok (.iadd, 1) := by decide +kernel
theorem dX7_change_72 : decode cX7_change 72 = .ok (.iconst 1, 1) := by decide +kernel
theorem dX7_change_73 : decode cX7_change 73 = .ok (.iadd, 1) := by decide +kernel
theorem dX7_change_74 : decode cX7_change 74 = .ok (.iload_n 2, 1) := by decide +kernel
theorem dX7_change_75 : decode cX7_change 75 = .ok (.iastore, 1) := by decide +kernel
theorem dX7_change_76 : decode cX7_change 76 = .ok (.aload_n 0, 1) := by decide +kernel
theorem dX7_change_77 : decode cX7_change 77 = .ok (.getfield 22, 3) := by decide +kernel
theorem dX7_change_80 : decode cX7_change 80 = .ok (.iconst 4, 1) := by decide +kernel
theorem dX7_change_81 : decode cX7_change 81 = .ok (.iload_n 1, 1) := by decide +kernel
theorem dX7_change_82 : decode cX7_change 82 = .ok (.iadd, 1) := by decide +kernel
theorem dX7_change_83 : decode cX7_change 83 = .ok (.iaload, 1) := by decide +kernel
theorem dX7_change_84 : decode cX7_change 84 = .ok (.ireturn, 1) := by decide +kernel
theorem dX7_wind_0 : decode cX7_wind 0 = .ok (.aload_n 0, 1) := by decide +kernel
theorem dX7_wind_1 : decode cX7_wind 1 = .ok (.invokevirtual 151, 3) := by decide +kernel
theorem dX7_wind_4 : decode cX7_wind 4 = .ok (.ifCond .ne 6, 3) := by decide +kernel
theorem dX7_wind_7 : decode cX7_wind 7 = .ok (.ldc 154, 2) := by decide +kernel
theorem dX7_wind_9 : decode cX7_wind 9 = .ok (.ireturn, 1) := by decide +kernel
theorem dX7_wind_10 : decode cX7_wind 10 = .ok (.iload_n 1, 1) := by decide +kernel
theorem dX7_wind_11 : decode cX7_wind 11 = .ok (.iconst 0, 1) := by decide +kernel
theorem dX7_wind_12 : decode cX7_wind 12 = .ok (.bipush 9, 2) := by decide +kernel
theorem dX7_wind_14 : decode cX7_wind 14 = .ok (.invokestatic 56, 3) := by decide +kernel
theorem dX7_wind_17 : decode cX7_wind 17 = .ok (.ifCond .ne 6, 3) := by decide +kernel
theorem dX7_wind_20 : decode cX7_wind 20 = .ok (.ldc 69, 2) := by decide +kernel
theorem dX7_wind_22 : decode cX7_wind 22 = .ok (.ireturn, 1) := by decide +kernel
theorem dX7_wind_23 : decode cX7_wind 23 = .ok (.aload_n 0, 1) := by decide +kernel
theorem dX7_wind_24 : decode cX7_wind 24 = .ok (.invokevirtual 155, 3) := by decide +kernel
theorem dX7_wind_27 : decode cX7_wind 27 = .ok (.aload_n 0, 1) := by decide +kernel
theorem dX7_wind_28 : decode cX7_wind 28 = .ok (.getfield 22, 3) := by decide +kernel
theorem dX7_wind_31 : decode cX7_wind 31 = .ok (.iconst 1, 1) := by decide +kernel
theorem dX7_wind_32 : decode cX7_wind 32 = .ok (.iaload, 1) := by decide +kernel
theorem dX7_wind_33 : decode cX7_wind 33 = .ok (.istore_n 2, 1) := by decide +kernel
theorem dX7_wind_34 : decode cX7_wind 34 = .ok (.aload_n 0, 1) := by decide +kernel
theorem dX7_wind_35 : decode cX7_wind 35 = .ok (.getfield 22, 3) := by decide +kernel
theorem dX7_wind_38 : decode cX7_wind 38 = .ok (.iconst 1, 1) := by decide +kernel
theorem dX7_wind_39 : decode cX7_wind 39 = .ok (.iload_n 1, 1) := by decide +kernel
theorem dX7_wind_40 : decode cX7_wind 40 = .ok (.iastore, 1) := by decide +kernel
theorem dX7_wind_41 : decode cX7_wind 41 = .ok (.iload_n 2, 1) := by decide +kernel
theorem dX7_wind_42 : decode cX7_wind 42 = .ok (.ireturn, 1) := by decide +kernel
theorem dX7_cough_0 : decode cX7_cough 0 = .ok (.aload_n 0, 1) := by decide +kernel
theorem dX7_cough_1 : decode cX7_cough 1 = .ok (.iload_n 1, 1) := by decide +kernel
theorem dX7_cough_2 : decode cX7_cough 2 = .ok (.invokevirtual 170, 3) := by decide +kernel
theorem dX7_cough_5 : decode cX7_cough 5 = .ok (.ifCond .ne 6, 3) := by decide +kernel
theorem dX7_cough_8 : decode cX7_cough 8 = .ok (.ldc 69, 2) := by decide +kernel
theorem dX7_cough_10 : decode cX7_cough 10 = .ok (.ireturn, 1) := by decide +kernel
theorem dX7_cough_11 : decode cX7_cough 11 = .ok (.aload_n 0, 1) := by decide +kernel
theorem dX7_cough_12 : decode cX7_cough 12 = .ok (.invokevirtual 155, 3) := by decide +kernel
theorem dX7_cough_15 : decode cX7_cough 15 = .ok (.aload_n 0, 1) := by decide +kernel
theorem dX7_cough_16 : decode cX7_cough 16 = .ok (.getfield 22, 3) := by decide +kernel
theorem dX7_cough_19 : decode cX7_cough 19 = .ok (.bipush 37, 2) := by decide +kernel
theorem dX7_cough_21 : decode cX7_cough 21 = .ok (.iload_n 1, 1) := by decide +kernel
theorem dX7_cough_22 : decode cX7_cough 22 = .ok (.iadd, 1) := by decide +kernel
theorem dX7_cough_23 : decode cX7_cough 23 = .ok (.iaload, 1) := by decide +kernel
theorem dX7_cough_24 : decode cX7_cough 24 = .ok (.istore_n 2, 1) := by decide +kernel
theorem dX7_cough_25 : decode cX7_cough 25 = .ok (.aload_n 0, 1) := by decide +kernel
theorem dX7_cough_26 : decode cX7_cough 26 = .ok (.getfield 22, 3) := by decide +kernel
theorem dX7_cough_29 : decode cX7_cough 29 = .ok (.bipush 37, 2) := by decide +kernel
theorem dX7_cough_31 : decode cX7_cough 31 = .ok (.iload_n 1, 1) := by decide +kernel
theorem dX7_cough_32 : decode cX7_cough 32 = .ok (.iadd, 1) := by decide +kernel
theorem dX7_cough_33 : decode cX7_cough 33 = .ok (.iconst 0, 1) := by decide +kernel
theorem dX7_cough_34 : decode cX7_cough 34 = .ok (.iastore, 1) := by decide +kernel
theorem dX7_cough_35 : decode cX7_cough 35 = .ok (.aload_n 0, 1) := by decide +kernel
theorem dX7_cough_36 : decode cX7_cough 36 = .ok (.getfield 22, 3) := by decide +kernel
theorem dX7_cough_39 : decode cX7_cough 39 = .ok (.bipush 42, 2) := by decide +kernel
theorem dX7_cough_41 : decode cX7_cough 41 = .ok (.iload_n 1, 1) := by decide +kernel
theorem dX7_cough_42 : decode cX7_cough 42 = .ok (.iadd, 1) := by decide +kernel
theorem dX7_cough_43 : decode cX7_cough 43 = .ok (.iconst 0, 1) := by decide +kernel
theorem dX7_cough_44 : decode cX7_cough 44 = .ok (.iastore, 1) := by decide +kernel
theorem dX7_cough_45 : decode cX7_cough 45 = .ok (.iload_n 2, 1) := by decide +kernel
theorem dX7_cough_46 : decode cX7_cough 46 = .ok (.ireturn, 1) := by decide +kernel
theorem dX7_undo_0 : decode cX7_undo 0 = .ok (.aload_n 0, 1) := by decide +kernel
theorem dX7_undo_1 : decode cX7_undo 1 = .ok (.getfield 134, 3) := by decide +kernel
theorem dX7_undo_4 : decode cX7_undo 4 = .ok (.ifCond .ne 6, 3) := by decide +kernel
theorem dX7_undo_7 : decode cX7_undo 7 = .ok (.ldc 154, 2) := by decide +kernel
theorem dX7_undo_9 : decode cX7_undo 9 = .ok (.ireturn, 1) := by decide +kernel
theorem dX7_undo_10 : decode cX7_undo 10 = .ok (.aload_n 0, 1) := by decide +kernel
theorem dX7_undo_11 : decode cX7_undo 11 = .ok (.dup, 1) := by decide +kernel
theorem dX7_undo_12 : decode cX7_undo 12 = .ok (.getfield 134, 3) := by decide +kernel
theorem dX7_undo_15 : decode cX7_undo 15 = .ok (.iconst 1, 1) := by decide +kernel
theorem dX7_undo_16 : decode cX7_undo 16 = .ok (.isub, 1) := by decide +kernel
theorem dX7_undo_17 : decode cX7_undo 17 = .ok (.putfield 134, 3) := by decide +kernel
theorem dX7_undo_20 : decode cX7_undo 20 = .ok (.aload_n 0, 1) := by decide +kernel
theorem dX7_undo_21 : decode cX7_undo 21 = .ok (.getfield 38, 3) := by decide +kernel
theorem dX7_undo_24 : decode cX7_undo 24 = .ok (.bipush 47, 2) := by decide +kernel
theorem dX7_undo_26 : decode cX7_undo 26 = .ok (.aload_n 0, 1) := by decide +kernel
theorem dX7_undo_27 : decode cX7_undo 27 = .ok (.getfield 134, 3) := by decide +kernel
theorem dX7_undo_30 : decode cX7_undo 30 = .ok (.imul, 1) := by decide +kernel
theorem dX7_undo_31 : decode cX7_undo 31 = .ok (.aload_n 0, 1) := by decide +kernel
theorem dX7_undo_32 : decode cX7_undo 32 = .ok (.getfield 22, 3) := by decide +kernel
theorem dX7_undo_35 : decode cX7_undo 35 = .ok (.iconst 0, 1) := by decide +kernel
theorem dX7_undo_36 : decode cX7_undo 36 = .ok (.invokestatic 130, 3) := by decide +kernel
theorem dX7_undo_39 : decode cX7_undo 39 = .ok (.aload_n 0, 1) := by decide +kernel
theorem dX7_undo_40 : decode cX7_undo 40 = .ok (.getfield 134, 3) := by decide +kernel
theorem dX7_undo_43 : decode cX7_undo 43 = .ok (.ireturn, 1) := by decide +kernel
theorem dX7_heardBy_0 : decode cX7_heardBy 0 = .ok (.iconst 0, 1) := by decide +kernel
theorem dX7_heardBy_1 : decode cX7_heardBy 1 = .ok (.istore_n 2, 1) := by decide +kernel
theorem dX7_heardBy_2 : decode cX7_heardBy 2 = .ok (.iconst 0, 1) := by decide +kernel
theorem dX7_heardBy_3 : decode cX7_heardBy 3 = .ok (.istore_n 3, 1) := by decide +kernel
theorem dX7_heardBy_4 : decode cX7_heardBy 4 = .ok (.iload_n 3, 1) := by decide +kernel
theorem dX7_heardBy_5 : decode cX7_heardBy 5 = .ok (.aload_n 0, 1) := by decide +kernel
theorem dX7_heardBy_6 : decode cX7_heardBy 6 = .ok (.getfield 22, 3) := by decide +kernel
theorem dX7_heardBy_9 : decode cX7_heardBy 9 = .ok (.iconst 2, 1) := by decide +kernel
theorem dX7_heardBy_10 : decode cX7_heardBy 10 = .ok (.iaload, 1) := by decide +kernel
theorem dX7_heardBy_11 : decode cX7_heardBy 11 = .ok (.if_icmp .ge 31, 3) := by decide +kernel
theorem dX7_heardBy_14 : decode cX7_heardBy 14 = .ok (.iload_n 2, 1) := by decide +kernel
theorem dX7_heardBy_15 : decode cX7_heardBy 15 = .ok (.aload_n 0, 1) := by decide +kernel
theorem dX7_heardBy_16 : decode cX7_heardBy 16 = .ok (.getfield 22, 3) := by decide +kernel
theorem dX7_heardBy_19 : decode cX7_heardBy 19 = .ok (.iload_n 1, 1) := by decide +kernel
theorem dX7_heardBy_20 : decode cX7_heardBy 20 = .ok (.iload_n 3, 1) := by decide +kernel
theorem dX7_heardBy_21 : decode cX7_heardBy 21 = .ok (.invokestatic 143, 3) := by decide +kernel
theorem dX7_heardBy_24 : decode cX7_heardBy 24 = .ok (.ifCond .eq 9, 3) := by decide +kernel
theorem dX7_heardBy_27 : decode cX7_heardBy 27 = .ok (.iconst 1, 1) := by decide +kernel
theorem dX7_heardBy_28 : decode cX7_heardBy 28 = .ok (.iload_n 3, 1) := by decide +kernel
theorem dX7_heardBy_29 : decode cX7_heardBy 29 = .ok (.ishl, 1) := by decide +kernel
theorem dX7_heardBy_30 : decode cX7_heardBy 30 = .ok (.goto 4, 3) := by decide +kernel
theorem dX7_heardBy_33 : decode cX7_heardBy 33 = .ok (.iconst 0, 1) := by decide +kernel
theorem dX7_heardBy_34 : decode cX7_heardBy 34 = .ok (.ior, 1) := by decide +kernel
theorem dX7_heardBy_35 : decode cX7_heardBy 35 = .ok (.istore_n 2, 1) := by decide +kernel
theorem dX7_heardBy_36 : decode cX7_heardBy 36 = .ok (.iinc 3 1, 3) := by decide +kernel
theorem dX7_heardBy_39 : decode cX7_heardBy 39 = .ok (.goto (-35), 3) := by decide +kernel
theorem dX7_heardBy_42 : decode cX7_heardBy 42 = .ok (.iload_n 2, 1) := by decide +kernel
theorem dX7_heardBy_43 : decode cX7_heardBy 43 = .ok (.ireturn, 1) := by decide +kernel
theorem dX7_sleeper_0 : decode cX7_sleeper 0 = .ok (.aload_n 0, 1) := by decide +kernel
theorem dX7_sleeper_1 : decode cX7_sleeper 1 = .ok (.iload_n 1, 1) := by decide +kernel
theorem dX7_sleeper_2 : decode cX7_sleeper 2 = .ok (.invokevirtual 170, 3) := by decide +kernel
theorem dX7_sleeper_5 : decode cX7_sleeper 5 = .ok (.ifCond .ne 6, 3) := by decide +kernel
theorem dX7_sleeper_8 : decode cX7_sleeper 8 = .ok (.ldc 69, 2) := by decide +kernel
theorem dX7_sleeper_10 : decode cX7_sleeper 10 = .ok (.ireturn, 1) := by decide +kernel
theorem dX7_sleeper_11 : decode cX7_sleeper 11 = .ok (.iload_n 2, 1) := by decide +kernel
theorem dX7_sleeper_12 : decode cX7_sleeper 12 = .ok (.tableswitch 82 0 4 #[36, 46, 56, 66, 76], 36) := by decide +kernel
theorem dX7_sleeper_48 : decode cX7_sleeper 48 = .ok (.aload_n 0, 1) := by decide +kernel
theorem dX7_sleeper_49 : decode cX7_sleeper 49 = .ok (.getfield 22, 3) := by decide +kernel
theorem dX7_sleeper_52 : decode cX7_sleeper 52 = .ok (.bipush 27, 2) := by decide +kernel
theorem dX7_sleeper_54 : decode cX7_sleeper 54 = .ok (.iload_n 1, 1) := by decide +kernel
theorem dX7_sleeper_55 : decode cX7_sleeper 55 = .ok (.iadd, 1) := by decide +kernel
theorem dX7_sleeper_56 : decode cX7_sleeper 56 = .ok (.iaload, 1) := by decide +kernel
theorem dX7_sleeper_57 : decode cX7_sleeper 57 = .ok (.ireturn, 1) := by decide +kernel
theorem dX7_sleeper_58 : decode cX7_sleeper 58 = .ok (.aload_n 0, 1) := by decide +kernel
theorem dX7_sleeper_59 : decode cX7_sleeper 59 = .ok (.getfield 22, 3) := by decide +kernel
theorem dX7_sleeper_62 : decode cX7_sleeper 62 = .ok (.bipush 32, 2) := by decide +kernel
theorem dX7_sleeper_64 : decode cX7_sleeper 64 = .ok (.iload_n 1, 1) := by decide +kernel
theorem dX7_sleeper_65 : decode cX7_sleeper 65 = .ok (.iadd, 1) := by decide +kernel
theorem dX7_sleeper_66 : decode cX7_sleeper 66 = .ok (.iaload, 1) := by decide +kernel
theorem dX7_sleeper_67 : decode cX7_sleeper 67 = .ok (.ireturn, 1) := by decide +kernel
theorem dX7_sleeper_68 : decode cX7_sleeper 68 = .ok (.aload_n 0, 1) := by decide +kernel
theorem dX7_sleeper_69 : decode cX7_sleeper 69 = .ok (.getfield 22, 3) := by decide +kernel
theorem dX7_sleeper_72 : decode cX7_sleeper 72 = .ok (.bipush 37, 2) := by decide +kernel
theorem dX7_sleeper_74 : decode cX7_sleeper 74 = .ok (.iload_n 1, 1) := by decide +kernel
theorem dX7_sleeper_75 : decode cX7_sleeper 75 = .ok (.iadd, 1) := by decide +kernel
theorem dX7_sleeper_76 : decode cX7_sleeper 76 = .ok (.iaload, 1) := by decide +kernel
theorem dX7_sleeper_77 : decode cX7_sleeper 77 = .ok (.ireturn, 1) := by decide +kernel
theorem dX7_sleeper_78 : decode cX7_sleeper 78 = .ok (.aload_n 0, 1) := by decide +kernel
theorem dX7_sleeper_79 : decode cX7_sleeper 79 = .ok (.getfield 22, 3) := by decide +kernel
theorem dX7_sleeper_82 : decode cX7_sleeper 82 = .ok (.bipush 42, 2) := by decide +kernel
theorem dX7_sleeper_84 : decode cX7_sleeper 84 = .ok (.iload_n 1, 1) := by decide +kernel
theorem dX7_sleeper_85 : decode cX7_sleeper 85 = .ok (.iadd, 1) := by decide +kernel
theorem dX7_sleeper_86 : decode cX7_sleeper 86 = .ok (.iaload, 1) := by decide +kernel
theorem dX7_sleeper_87 : decode cX7_sleeper 87 = .ok (.ireturn, 1) := by decide +kernel
theorem dX7_sleeper_88 : decode cX7_sleeper 88 = .ok (.aload_n 0, 1) := by decide +kernel
theorem dX7_sleeper_89 : decode cX7_sleeper 89 = .ok (.iload_n 1, 1) := by decide +kernel
theorem dX7_sleeper_90 : decode cX7_sleeper 90 = .ok (.invokevirtual 173, 3) := by decide +kernel
theorem dX7_sleeper_93 : decode cX7_sleeper 93 = .ok (.ireturn, 1) := by decide +kernel
theorem dX7_sleeper_94 : decode cX7_sleeper 94 = .ok (.ldc 69, 2) := by decide +kernel
theorem dX7_sleeper_96 : decode cX7_sleeper 96 = .ok (.ireturn, 1) := by decide +kernel
theorem dX7_sheep_0 : decode cX7_sheep 0 = .ok (.iload_n 1, 1) := by decide +kernel
theorem dX7_sheep_1 : decode cX7_sheep 1 = .ok (.iconst 0, 1) := by decide +kernel
theorem dX7_sheep_2 : decode cX7_sheep 2 = .ok (.aload_n 0, 1) := by decide +kernel
theorem dX7_sheep_3 : decode cX7_sheep 3 = .ok (.getfield 22, 3) := by decide +kernel
theorem dX7_sheep_6 : decode cX7_sheep 6 = .ok (.iconst 2, 1) := by decide +kernel
theorem dX7_sheep_7 : decode cX7_sheep 7 = .ok (.iaload, 1) := by decide +kernel
theorem dX7_sheep_8 : decode cX7_sheep 8 = .ok (.iconst 1, 1) := by decide +kernel
theorem dX7_sheep_9 : decode cX7_sheep 9 = .ok (.isub, 1) := by decide +kernel
theorem dX7_sheep_10 : decode cX7_sheep 10 = .ok (.invokestatic 56, 3) := by decide +kernel
theorem dX7_sheep_13 : decode cX7_sheep 13 = .ok (.ifCond .eq 12, 3) := by decide +kernel
theorem dX7_sheep_16 : decode cX7_sheep 16 = .ok (.iload_n 2, 1) := by decide +kernel
theorem dX7_sheep_17 : decode cX7_sheep 17 = .ok (.iconst 0, 1) := by decide +kernel
theorem dX7_sheep_18 : decode cX7_sheep 18 = .ok (.iconst 2, 1) := by decide +kernel
theorem dX7_sheep_19 : decode cX7_sheep 19 = .ok (.invokestatic 56, 3) := by decide +kernel
theorem dX7_sheep_22 : decode cX7_sheep 22 = .ok (.ifCond .ne 6, 3) := by decide +kernel
theorem dX7_sheep_25 : decode cX7_sheep 25 = .ok (.ldc 69, 2) := by decide +kernel
theorem dX7_sheep_27 : decode cX7_sheep 27 = .ok (.ireturn, 1) := by decide +kernel
theorem dX7_sheep_28 : decode cX7_sheep 28 = .ok (.iconst 0, 1) := by decide +kernel
theorem dX7_sheep_29 : decode cX7_sheep 29 = .ok (.istore_n 3, 1) := by decide +kernel
theorem dX7_sheep_30 : decode cX7_sheep 30 = .ok (.iconst 0, 1) := by decide +kernel
theorem dX7_sheep_31 : decode cX7_sheep 31 = .ok (.istore 4, 2) := by decide +kernel
theorem dX7_sheep_33 : decode cX7_sheep 33 = .ok (.iload 4, 2) := by decide +kernel
theorem dX7_sheep_35 : decode cX7_sheep 35 = .ok (.aload_n 0, 1) := by decide +kernel
theorem dX7_sheep_36 : decode cX7_sheep 36 = .ok (.getfield 22, 3) := by decide +kernel
theorem dX7_sheep_39 : decode cX7_sheep 39 = .ok (.iconst 2, 1) := by decide +kernel
theorem dX7_sheep_40 : decode cX7_sheep 40 = .ok (.iaload, 1) := by decide +kernel
theorem dX7_sheep_41 : decode cX7_sheep 41 = .ok (.if_icmp .ge 29, 3) := by decide +kernel
theorem dX7_sheep_44 : decode cX7_sheep 44 = .ok (.aload_n 0, 1) := by decide +kernel
theorem dX7_sheep_45 : decode cX7_sheep 45 = .ok (.getfield 22, 3) := by decide +kernel
theorem dX7_sheep_48 : decode cX7_sheep 48 = .ok (.iconst 4, 1) := by decide +kernel
theorem dX7_sheep_49 : decode cX7_sheep 49 = .ok (.iload 4, 2) := by decide +kernel
theorem dX7_sheep_51 : decode cX7_sheep 51 = .ok (.iadd, 1) := by decide +kernel
theorem dX7_sheep_52 : decode cX7_sheep 52 = .ok (.iaload, 1) := by decide +kernel
theorem dX7_sheep_53 : decode cX7_sheep 53 = .ok (.iload_n 1, 1) := by decide +kernel
theorem dX7_sheep_54 : decode cX7_sheep 54 = .ok (.if_icmp .ne 8, 3) := by decide +kernel
theorem dX7_sheep_57 : decode cX7_sheep 57 = .ok (.iload 4, 2) := by decide +kernel
theorem dX7_sheep_59 : decode cX7_sheep 59 = .ok (.goto 4, 3) := by decide +kernel
theorem dX7_sheep_62 : decode cX7_sheep 62 = .ok (.iload_n 3, 1) := by decide +kernel
theorem dX7_sheep_63 : decode cX7_sheep 63 = .ok (.istore_n 3, 1) := by decide +kernel
theorem dX7_sheep_64 : decode cX7_sheep 64 = .ok (.iinc 4 1, 3) := by decide +kernel
theorem dX7_sheep_67 : decode cX7_sheep 67 = .ok (.goto (-34), 3) := by decide +kernel
theorem dX7_sheep_70 : decode cX7_sheep 70 = .ok (.iload_n 2, 1) := by decide +kernel
theorem dX7_sheep_71 : decode cX7_sheep 71 = .ok (.ifCond .ne 15, 3) := by decide +kernel
theorem dX7_sheep_74 : decode cX7_sheep 74 = .ok (.aload_n 0, 1) := by decide +kernel
theorem dX7_sheep_75 : decode cX7_sheep 75 = .ok (.getfield 22, 3) := by decide +kernel
theorem dX7_sheep_78 : decode cX7_sheep 78 = .ok (.bipush 10, 2) := by decide +kernel
theorem dX7_sheep_80 : decode cX7_sheep 80 = .ok (.iload_n 1, 1) := by decide +kernel
theorem dX7_sheep_81 : decode cX7_sheep 81 = .ok (.iadd, 1) := by decide +kernel
theorem dX7_sheep_82 : decode cX7_sheep 82 = .ok (.iaload, 1) := by decide +kernel
theorem dX7_sheep_83 : decode cX7_sheep 83 = .ok (.goto 21, 3) := by decide +kernel
theorem dX7_sheep_86 : decode cX7_sheep 86 = .ok (.iload_n 2, 1) := by decide +kernel
theorem dX7_sheep_87 : decode cX7_sheep 87 = .ok (.iconst 1, 1) := by decide +kernel
theorem dX7_sheep_88 : decode cX7_sheep 88 = .ok (.if_icmp .ne 15, 3) := by decide +kernel
theorem dX7_sheep_91 : decode cX7_sheep 91 = .ok (.aload_n 0, 1) := by decide +kernel
theorem dX7_sheep_92 : decode cX7_sheep 92 = .ok (.getfield 22, 3) := by decide +kernel
theorem dX7_sheep_95 : decode cX7_sheep 95 = .ok (.bipush 16, 2) := by decide +kernel
theorem dX7_sheep_97 : decode cX7_sheep 97 = .ok (.iload_n 1, 1) := by decide +kernel
theorem dX7_sheep_98 : decode cX7_sheep 98 = .ok (.iadd, 1) := by decide +kernel
theorem dX7_sheep_99 : decode cX7_sheep 99 = .ok (.iaload, 1) := by decide +kernel
theorem dX7_sheep_100 : decode cX7_sheep 100 = .ok (.goto 4, 3) := by decide +kernel
theorem dX7_sheep_103 : decode cX7_sheep 103 = .ok (.iload_n 3, 1) := by decide +kernel
theorem dX7_sheep_104 : decode cX7_sheep 104 = .ok (.ireturn, 1) := by decide +kernel
theorem dX7_begin_0 : decode cX7_begin 0 = .ok (.aload_n 0, 1) := by decide +kernel
theorem dX7_begin_1 : decode cX7_begin 1 = .ok (.getfield 22, 3) := by decide +kernel
theorem dX7_begin_4 : decode cX7_begin 4 = .ok (.iconst 0, 1) := by decide +kernel
theorem dX7_begin_5 : decode cX7_begin 5 = .ok (.aload_n 0, 1) := by decide +kernel
theorem dX7_begin_6 : decode cX7_begin 6 = .ok (.getfield 28, 3) := by decide +kernel
theorem dX7_begin_9 : decode cX7_begin 9 = .ok (.iconst 0, 1) := by decide +kernel
theorem dX7_begin_10 : decode cX7_begin 10 = .ok (.invokestatic 130, 3) := by decide +kernel
theorem dX7_begin_13 : decode cX7_begin 13 = .ok (.return_, 1) := by decide +kernel
theorem dX7_goOn_0 : decode cX7_goOn 0 = .ok (.aload_n 0, 1) := by decide +kernel
theorem dX7_goOn_1 : decode cX7_goOn 1 = .ok (.invokevirtual 176, 3) := by decide +kernel
theorem dX7_goOn_4 : decode cX7_goOn 4 = .ok (.iconst 0, 1) := by decide +kernel
theorem dX7_goOn_5 : decode cX7_goOn 5 = .ok (.istore_n 2, 1) := by decide +kernel
theorem dX7_goOn_6 : decode cX7_goOn 6 = .ok (.iload_n 2, 1) := by decide +kernel
theorem dX7_goOn_7 : decode cX7_goOn 7 = .ok (.iload_n 1, 1) := by decide +kernel
theorem dX7_goOn_8 : decode cX7_goOn 8 = .ok (.if_icmp .ge 20, 3) := by decide +kernel
theorem dX7_goOn_11 : decode cX7_goOn 11 = .ok (.aload_n 0, 1) := by decide +kernel
theorem dX7_goOn_12 : decode cX7_goOn 12 = .ok (.getfield 28, 3) := by decide +kernel
theorem dX7_goOn_15 : decode cX7_goOn 15 = .ok (.aload_n 0, 1) := by decide +kernel
theorem dX7_goOn_16 : decode cX7_goOn 16 = .ok (.invokevirtual 158, 3) := by decide +kernel
theorem dX7_goOn_19 : decode cX7_goOn 19 = .ok (.invokestatic 162, 3) := by decide +kernel
theorem dX7_goOn_22 : decode cX7_goOn 22 = .ok (.iinc 2 1, 3) := by decide +kernel
theorem dX7_goOn_25 : decode cX7_goOn 25 = .ok (.goto (-19), 3) := by decide +kernel
theorem dX7_goOn_28 : decode cX7_goOn 28 = .ok (.return_, 1) := by decide +kernel
theorem dX7_off_0 : decode cX7_off 0 = .ok (.aload_n 0, 1) := by decide +kernel
theorem dX7_off_1 : decode cX7_off 1 = .ok (.invokevirtual 151, 3) := by decide +kernel
theorem dX7_off_4 : decode cX7_off 4 = .ok (.ifCond .ne 6, 3) := by decide +kernel
theorem dX7_off_7 : decode cX7_off 7 = .ok (.ldc 154, 2) := by decide +kernel
theorem dX7_off_9 : decode cX7_off 9 = .ok (.ireturn, 1) := by decide +kernel
theorem dX7_off_10 : decode cX7_off 10 = .ok (.iload_n 1, 1) := by decide +kernel
theorem dX7_off_11 : decode cX7_off 11 = .ok (.iconst 0, 1) := by decide +kernel
theorem dX7_off_12 : decode cX7_off 12 = .ok (.bipush 99, 2) := by decide +kernel
theorem dX7_off_14 : decode cX7_off 14 = .ok (.invokestatic 56, 3) := by decide +kernel
theorem dX7_off_17 : decode cX7_off 17 = .ok (.ifCond .ne 6, 3) := by decide +kernel
theorem dX7_off_20 : decode cX7_off 20 = .ok (.ldc 69, 2) := by decide +kernel
theorem dX7_off_22 : decode cX7_off 22 = .ok (.ireturn, 1) := by decide +kernel
theorem dX7_off_23 : decode cX7_off 23 = .ok (.aload_n 0, 1) := by decide +kernel
theorem dX7_off_24 : decode cX7_off 24 = .ok (.iload_n 1, 1) := by decide +kernel
theorem dX7_off_25 : decode cX7_off 25 = .ok (.invokevirtual 179, 3) := by decide +kernel
theorem dX7_off_28 : decode cX7_off 28 = .ok (.aload_n 0, 1) := by decide +kernel
theorem dX7_off_29 : decode cX7_off 29 = .ok (.getfield 28, 3) := by decide +kernel
theorem dX7_off_32 : decode cX7_off 32 = .ok (.invokestatic 166, 3) := by decide +kernel
theorem dX7_off_35 : decode cX7_off 35 = .ok (.ireturn, 1) := by decide +kernel
theorem dX7_counted_0 : decode cX7_counted 0 = .ok (.aload_n 0, 1) := by decide +kernel
theorem dX7_counted_1 : decode cX7_counted 1 = .ok (.iload_n 1, 1) := by decide +kernel
theorem dX7_counted_2 : decode cX7_counted 2 = .ok (.invokevirtual 170, 3) := by decide +kernel
theorem dX7_counted_5 : decode cX7_counted 5 = .ok (.ifCond .eq 13, 3) := by decide +kernel
theorem dX7_counted_8 : decode cX7_counted 8 = .ok (.iload_n 2, 1) := by decide +kernel
theorem dX7_counted_9 : decode cX7_counted 9 = .ok (.iconst 0, 1) := by decide +kernel
theorem dX7_counted_10 : decode cX7_counted 10 = .ok (.bipush 99, 2) := by decide +kernel
theorem dX7_counted_12 : decode cX7_counted 12 = .ok (.invokestatic 56, 3) := by decide +kernel
theorem dX7_counted_15 : decode cX7_counted 15 = .ok (.ifCond .ne 6, 3) := by decide +kernel
theorem dX7_counted_18 : decode cX7_counted 18 = .ok (.ldc 69, 2) := by decide +kernel
theorem dX7_counted_20 : decode cX7_counted 20 = .ok (.ireturn, 1) := by decide +kernel
theorem dX7_counted_21 : decode cX7_counted 21 = .ok (.aload_n 0, 1) := by decide +kernel
theorem dX7_counted_22 : decode cX7_counted 22 = .ok (.iload_n 2, 1) := by decide +kernel
theorem dX7_counted_23 : decode cX7_counted 23 = .ok (.invokevirtual 179, 3) := by decide +kernel
theorem dX7_counted_26 : decode cX7_counted 26 = .ok (.aload_n 0, 1) := by decide +kernel
theorem dX7_counted_27 : decode cX7_counted 27 = .ok (.getfield 28, 3) := by decide +kernel
theorem dX7_counted_30 : decode cX7_counted 30 = .ok (.bipush 37, 2) := by decide +kernel
theorem dX7_counted_32 : decode cX7_counted 32 = .ok (.iload_n 1, 1) := by decide +kernel
theorem dX7_counted_33 : decode cX7_counted 33 = .ok (.iadd, 1) := by decide +kernel
theorem dX7_counted_34 : decode cX7_counted 34 = .ok (.iaload, 1) := by decide +kernel
theorem dX7_counted_35 : decode cX7_counted 35 = .ok (.ireturn, 1) := by decide +kernel
theorem dX7_firstOf_0 : decode cX7_firstOf 0 = .ok (.iconst 0, 1) := by decide +kernel
theorem dX7_firstOf_1 : decode cX7_firstOf 1 = .ok (.istore 4, 2) := by decide +kernel
theorem dX7_firstOf_3 : decode cX7_firstOf 3 = .ok (.iload 4, 2) := by decide +kernel
theorem dX7_firstOf_5 : decode cX7_firstOf 5 = .ok (.iload_n 3, 1) := by decide +kernel
theorem dX7_firstOf_6 : decode cX7_firstOf 6 = .ok (.if_icmp .gt 34, 3) := by decide +kernel
theorem dX7_firstOf_9 : decode cX7_firstOf 9 = .ok (.iload_n 1, 1) := by decide +kernel
theorem dX7_firstOf_10 : decode cX7_firstOf 10 = .ok (.aload_n 0, 1) := by decide +kernel
theorem dX7_firstOf_11 : decode cX7_firstOf 11 = .ok (.getfield 28, 3) := by decide +kernel
theorem dX7_firstOf_14 : decode cX7_firstOf 14 = .ok (.invokestatic 166, 3) := by decide +kernel
theorem dX7_firstOf_17 : decode cX7_firstOf 17 = .ok (.iconst (-1), 1) := by decide +kernel
theorem dX7_firstOf_18 : decode cX7_firstOf 18 = .ok (.ixor, 1) := by decide +kernel
theorem dX7_firstOf_19 : decode cX7_firstOf 19 = .ok (.iand, 1) := by decide +kernel
theorem dX7_firstOf_20 : decode cX7_firstOf 20 = .ok (.ifCond .ne 6, 3) := by decide +kernel
theorem dX7_firstOf_23 : decode cX7_firstOf 23 = .ok (.iload 4, 2) := by decide +kernel
theorem dX7_firstOf_25 : decode cX7_firstOf 25 = .ok (.ireturn, 1) := by decide +kernel
theorem dX7_firstOf_26 : decode cX7_firstOf 26 = .ok (.aload_n 0, 1) := by decide +kernel
theorem dX7_firstOf_27 : decode cX7_firstOf 27 = .ok (.getfield 28, 3) := by decide +kernel
theorem dX7_firstOf_30 : decode cX7_firstOf 30 = .ok (.iload_n 2, 1) := by decide +kernel
theorem dX7_firstOf_31 : decode cX7_firstOf 31 = .ok (.invokestatic 162, 3) := by decide +kernel
theorem dX7_firstOf_34 : decode cX7_firstOf 34 = .ok (.iinc 4 1, 3) := by decide +kernel
theorem dX7_firstOf_37 : decode cX7_firstOf 37 = .ok (.goto (-34), 3) := by decide +kernel
theorem dX7_firstOf_40 : decode cX7_firstOf 40 = .ok (.ldc 183, 2) := by decide +kernel
theorem dX7_firstOf_42 : decode cX7_firstOf 42 = .ok (.ireturn, 1) := by decide +kernel
theorem dX7_when_0 : decode cX7_when 0 = .ok (.aload_n 0, 1) := by decide +kernel
theorem dX7_when_1 : decode cX7_when 1 = .ok (.iload_n 1, 1) := by decide +kernel
theorem dX7_when_2 : decode cX7_when 2 = .ok (.invokevirtual 170, 3) := by decide +kernel
theorem dX7_when_5 : decode cX7_when 5 = .ok (.ifCond .ne 6, 3) := by decide +kernel
theorem dX7_when_8 : decode cX7_when 8 = .ok (.ldc 69, 2) := by decide +kernel
theorem dX7_when_10 : decode cX7_when 10 = .ok (.ireturn, 1) := by decide +kernel
theorem dX7_when_11 : decode cX7_when 11 = .ok (.aload_n 0, 1) := by decide +kernel
theorem dX7_when_12 : decode cX7_when 12 = .ok (.invokevirtual 176, 3) := by decide +kernel
theorem dX7_when_15 : decode cX7_when 15 = .ok (.aload_n 0, 1) := by decide +kernel
theorem dX7_when_16 : decode cX7_when 16 = .ok (.iconst 1, 1) := by decide +kernel
theorem dX7_when_17 : decode cX7_when 17 = .ok (.iload_n 1, 1) := by decide +kernel
theorem dX7_when_18 : decode cX7_when 18 = .ok (.ishl, 1) := by decide +kernel
theorem dX7_when_19 : decode cX7_when 19 = .ok (.aload_n 0, 1) := by decide +kernel
theorem dX7_when_20 : decode cX7_when 20 = .ok (.invokevirtual 158, 3) := by decide +kernel
theorem dX7_when_23 : decode cX7_when 23 = .ok (.bipush 99, 2) := by decide +kernel
theorem dX7_when_25 : decode cX7_when 25 = .ok (.invokevirtual 184, 3) := by decide +kernel
theorem dX7_when_28 : decode cX7_when 28 = .ok (.ireturn, 1) := by decide +kernel
theorem dX7_all_0 : decode cX7_all 0 = .ok (.aload_n 0, 1) := by decide +kernel
theorem dX7_all_1 : decode cX7_all 1 = .ok (.invokevirtual 151, 3) := by decide +kernel
theorem dX7_all_4 : decode cX7_all 4 = .ok (.ifCond .ne 6, 3) := by decide +kernel
theorem dX7_all_7 : decode cX7_all 7 = .ok (.ldc 154, 2) := by decide +kernel
theorem dX7_all_9 : decode cX7_all 9 = .ok (.ireturn, 1) := by decide +kernel
theorem dX7_all_10 : decode cX7_all 10 = .ok (.aload_n 0, 1) := by decide +kernel
theorem dX7_all_11 : decode cX7_all 11 = .ok (.iload_n 1, 1) := by decide +kernel
theorem dX7_all_12 : decode cX7_all 12 = .ok (.invokevirtual 188, 3) := by decide +kernel
theorem dX7_all_15 : decode cX7_all 15 = .ok (.ifCond .ne 6, 3) := by decide +kernel
theorem dX7_all_18 : decode cX7_all 18 = .ok (.ldc 69, 2) := by decide +kernel
theorem dX7_all_20 : decode cX7_all 20 = .ok (.ireturn, 1) := by decide +kernel
theorem dX7_all_21 : decode cX7_all 21 = .ok (.aload_n 0, 1) := by decide +kernel
theorem dX7_all_22 : decode cX7_all 22 = .ok (.invokevirtual 176, 3) := by decide +kernel
theorem dX7_all_25 : decode cX7_all 25 = .ok (.aload_n 0, 1) := by decide +kernel
theorem dX7_all_26 : decode cX7_all 26 = .ok (.iload_n 1, 1) := by decide +kernel
theorem dX7_all_27 : decode cX7_all 27 = .ok (.aload_n 0, 1) := by decide +kernel
theorem dX7_all_28 : decode cX7_all 28 = .ok (.invokevirtual 158, 3) := by decide +kernel
theorem dX7_all_31 : decode cX7_all 31 = .ok (.bipush 99, 2) := by decide +kernel
theorem dX7_all_33 : decode cX7_all 33 = .ok (.invokevirtual 184, 3) := by decide +kernel
theorem dX7_all_36 : decode cX7_all 36 = .ok (.ireturn, 1) := by decide +kernel
theorem dX7_layOff_0 : decode cX7_layOff 0 = .ok (.aload_n 0, 1) := by decide +kernel
theorem dX7_layOff_1 : decode cX7_layOff 1 = .ok (.invokevirtual 176, 3) := by decide +kernel
theorem dX7_layOff_4 : decode cX7_layOff 4 = .ok (.iconst 0, 1) := by decide +kernel
theorem dX7_layOff_5 : decode cX7_layOff 5 = .ok (.istore_n 1, 1) := by decide +kernel
theorem dX7_layOff_6 : decode cX7_layOff 6 = .ok (.iload_n 1, 1) := by decide +kernel
theorem dX7_layOff_7 : decode cX7_layOff 7 = .ok (.bipush 106, 2) := by decide +kernel
theorem dX7_layOff_9 : decode cX7_layOff 9 = .ok (.if_icmp .ge 33, 3) := by decide +kernel
theorem dX7_layOff_12 : decode cX7_layOff 12 = .ok (.aload_n 0, 1) := by decide +kernel
theorem dX7_layOff_13 : decode cX7_layOff 13 = .ok (.getfield 53, 3) := by decide +kernel
theorem dX7_layOff_16 : decode cX7_layOff 16 = .ok (.iload_n 1, 1) := by decide +kernel
theorem dX7_layOff_17 : decode cX7_layOff 17 = .ok (.aload_n 0, 1) := by decide +kernel
theorem dX7_layOff_18 : decode cX7_layOff 18 = .ok (.getfield 28, 3) := by decide +kernel
theorem dX7_layOff_21 : decode cX7_layOff 21 = .ok (.invokestatic 166, 3) := by decide +kernel
theorem dX7_layOff_24 : decode cX7_layOff 24 = .ok (.iastore, 1) := by decide +kernel
theorem dX7_layOff_25 : decode cX7_layOff 25 = .ok (.aload_n 0, 1) := by decide +kernel
theorem dX7_layOff_26 : decode cX7_layOff 26 = .ok (.getfield 28, 3) := by decide +kernel
theorem dX7_layOff_29 : decode cX7_layOff 29 = .ok (.aload_n 0, 1) := by decide +kernel
theorem dX7_layOff_30 : decode cX7_layOff 30 = .ok (.invokevirtual 158, 3) := by decide +kernel
theorem dX7_layOff_33 : decode cX7_layOff 33 = .ok (.invokestatic 162, 3) := by decide +kernel
theorem dX7_layOff_36 : decode cX7_layOff 36 = .ok (.iinc 1 1, 3) := by decide +kernel
theorem dX7_layOff_39 : decode cX7_layOff 39 = .ok (.goto (-33), 3) := by decide +kernel
theorem dX7_layOff_42 : decode cX7_layOff 42 = .ok (.return_, 1) := by decide +kernel
theorem dX7_never_0 : decode cX7_never 0 = .ok (.aload_n 0, 1) := by decide +kernel
theorem dX7_never_1 : decode cX7_never 1 = .ok (.invokevirtual 151, 3) := by decide +kernel
theorem dX7_never_4 : decode cX7_never 4 = .ok (.ifCond .ne 6, 3) := by decide +kernel
theorem dX7_never_7 : decode cX7_never 7 = .ok (.ldc 154, 2) := by decide +kernel
theorem dX7_never_9 : decode cX7_never 9 = .ok (.ireturn, 1) := by decide +kernel
theorem dX7_never_10 : decode cX7_never 10 = .ok (.aload_n 0, 1) := by decide +kernel
theorem dX7_never_11 : decode cX7_never 11 = .ok (.invokevirtual 191, 3) := by decide +kernel
theorem dX7_never_14 : decode cX7_never 14 = .ok (.iconst 1, 1) := by decide +kernel
theorem dX7_never_15 : decode cX7_never 15 = .ok (.aload_n 0, 1) := by decide +kernel
theorem dX7_never_16 : decode cX7_never 16 = .ok (.getfield 22, 3) := by decide +kernel
theorem dX7_never_19 : decode cX7_never 19 = .ok (.iconst 3, 1) := by decide +kernel
theorem dX7_never_20 : decode cX7_never 20 = .ok (.iaload, 1) := by decide +kernel
theorem dX7_never_21 : decode cX7_never 21 = .ok (.ishl, 1) := by decide +kernel
theorem dX7_never_22 : decode cX7_never 22 = .ok (.iconst 1, 1) := by decide +kernel
theorem dX7_never_23 : decode cX7_never 23 = .ok (.isub, 1) := by decide +kernel
theorem dX7_never_24 : decode cX7_never 24 = .ok (.istore_n 1, 1) := by decide +kernel
theorem dX7_never_25 : decode cX7_never 25 = .ok (.iconst 0, 1) := by decide +kernel
theorem dX7_never_26 : decode cX7_never 26 = .ok (.istore_n 2, 1) := by decide +kernel
theorem dX7_never_27 : decode cX7_never 27 = .ok (.iload_n 2, 1) := by decide +kernel
theorem dX7_never_28 : decode cX7_never 28 = .ok (.bipush 99, 2) := by decide +kernel
theorem dX7_never_30 : decode cX7_never 30 = .ok (.if_icmp .gt 20, 3) := by decide +kernel
theorem dX7_never_33 : decode cX7_never 33 = .ok (.iload_n 1, 1) := by decide +kernel
theorem dX7_never_34 : decode cX7_never 34 = .ok (.aload_n 0, 1) := by decide +kernel
theorem dX7_never_35 : decode cX7_never 35 = .ok (.getfield 53, 3) := by decide +kernel
theorem dX7_never_38 : decode cX7_never 38 = .ok (.iload_n 2, 1) := by decide +kernel
theorem dX7_never_39 : decode cX7_never 39 = .ok (.iaload, 1) := by decide +kernel
theorem dX7_never_40 : decode cX7_never 40 = .ok (.iconst (-1), 1) := by decide +kernel
theorem dX7_never_41 : decode cX7_never 41 = .ok (.ixor, 1) := by decide +kernel
theorem dX7_never_42 : decode cX7_never 42 = .ok (.iand, 1) := by decide +kernel
theorem dX7_never_43 : decode cX7_never 43 = .ok (.istore_n 1, 1) := by decide +kernel
theorem dX7_never_44 : decode cX7_never 44 = .ok (.iinc 2 1, 3) := by decide +kernel
theorem dX7_never_47 : decode cX7_never 47 = .ok (.goto (-20), 3) := by decide +kernel
theorem dX7_never_50 : decode cX7_never 50 = .ok (.iload_n 1, 1) := by decide +kernel
theorem dX7_never_51 : decode cX7_never 51 = .ok (.ireturn, 1) := by decide +kernel
theorem dX7_quiet_0 : decode cX7_quiet 0 = .ok (.aload_n 0, 1) := by decide +kernel
theorem dX7_quiet_1 : decode cX7_quiet 1 = .ok (.invokevirtual 151, 3) := by decide +kernel
theorem dX7_quiet_4 : decode cX7_quiet 4 = .ok (.ifCond .ne 6, 3) := by decide +kernel
theorem dX7_quiet_7 : decode cX7_quiet 7 = .ok (.ldc 154, 2) := by decide +kernel
theorem dX7_quiet_9 : decode cX7_quiet 9 = .ok (.ireturn, 1) := by decide +kernel
theorem dX7_quiet_10 : decode cX7_quiet 10 = .ok (.iload_n 1, 1) := by decide +kernel
theorem dX7_quiet_11 : decode cX7_quiet 11 = .ok (.iconst 0, 1) := by decide +kernel
theorem dX7_quiet_12 : decode cX7_quiet 12 = .ok (.iconst 5, 1) := by decide +kernel
theorem dX7_quiet_13 : decode cX7_quiet 13 = .ok (.invokestatic 56, 3) := by decide +kernel
theorem dX7_quiet_16 : decode cX7_quiet 16 = .ok (.ifCond .ne 6, 3) := by decide +kernel
theorem dX7_quiet_19 : decode cX7_quiet 19 = .ok (.ldc 69, 2) := by decide +kernel
theorem dX7_quiet_21 : decode cX7_quiet 21 = .ok (.ireturn, 1) := by decide +kernel
theorem dX7_quiet_22 : decode cX7_quiet 22 = .ok (.aload_n 0, 1) := by decide +kernel
theorem dX7_quiet_23 : decode cX7_quiet 23 = .ok (.invokevirtual 191, 3) := by decide +kernel
theorem dX7_quiet_26 : decode cX7_quiet 26 = .ok (.iconst 0, 1) := by decide +kernel
theorem dX7_quiet_27 : decode cX7_quiet 27 = .ok (.istore_n 2, 1) := by decide +kernel
theorem dX7_quiet_28 : decode cX7_quiet 28 = .ok (.iload_n 2, 1) := by decide +kernel
theorem dX7_quiet_29 : decode cX7_quiet 29 = .ok (.bipush 99, 2) := by decide +kernel
theorem dX7_quiet_31 : decode cX7_quiet 31 = .ok (.if_icmp .gt 59, 3) := by decide +kernel
theorem dX7_quiet_34 : decode cX7_quiet 34 = .ok (.iconst 1, 1) := by decide +kernel
theorem dX7_quiet_35 : decode cX7_quiet 35 = .ok (.istore_n 3, 1) := by decide +kernel
theorem dX7_quiet_36 : decode cX7_quiet 36 = .ok (.iconst 0, 1) := by decide +kernel
theorem dX7_quiet_37 : decode cX7_quiet 37 = .ok (.istore 4, 2) := by decide +kernel
theorem dX7_quiet_39 : decode cX7_quiet 39 = .ok (.iload 4, 2) := by decide +kernel
theorem dX7_quiet_41 : decode cX7_quiet 41 = .ok (.bipush 6, 2) := by decide +kernel
theorem dX7_quiet_43 : decode cX7_quiet 43 = .ok (.if_icmp .gt 35, 3) := by decide +kernel
theorem dX7_quiet_46 : decode cX7_quiet 46 = .ok (.iload_n 3, 1) := by decide +kernel
theorem dX7_quiet_47 : decode cX7_quiet 47 = .ok (.ifCond .eq 23, 3) := by decide +kernel
theorem dX7_quiet_50 : decode cX7_quiet 50 = .ok (.aload_n 0, 1) := by decide +kernel
theorem dX7_quiet_51 : decode cX7_quiet 51 = .ok (.getfield 53, 3) := by decide +kernel
theorem dX7_quiet_54 : decode cX7_quiet 54 = .ok (.iload_n 2, 1) := by decide +kernel
theorem dX7_quiet_55 : decode cX7_quiet 55 = .ok (.iload 4, 2) := by decide +kernel
theorem dX7_quiet_57 : decode cX7_quiet 57 = .ok (.iadd, 1) := by decide +kernel
theorem dX7_quiet_58 : decode cX7_quiet 58 = .ok (.iaload, 1) := by decide +kernel
theorem dX7_quiet_59 : decode cX7_quiet 59 = .ok (.invokestatic 137, 3) := by decide +kernel
theorem dX7_quiet_62 : decode cX7_quiet 62 = .ok (.iload_n 1, 1) := by decide +kernel
theorem dX7_quiet_63 : decode cX7_quiet 63 = .ok (.if_icmp .lt 7, 3) := by decide +kernel
theorem dX7_quiet_66 : decode cX7_quiet 66 = .ok (.iconst 1, 1) := by decide +kernel
theorem dX7_quiet_67 : decode cX7_quiet 67 = .ok (.goto 4, 3) := by decide +kernel
theorem dX7_quiet_70 : decode cX7_quiet 70 = .ok (.iconst 0, 1) := by decide +kernel
theorem dX7_quiet_71 : decode cX7_quiet 71 = .ok (.istore_n 3, 1) := by decide +kernel
theorem dX7_quiet_72 : decode cX7_quiet 72 = .ok (.iinc 4 1, 3) := by decide +kernel
theorem dX7_quiet_75 : decode cX7_quiet 75 = .ok (.goto (-36), 3) := by decide +kernel
theorem dX7_quiet_78 : decode cX7_quiet 78 = .ok (.iload_n 3, 1) := by decide +kernel
theorem dX7_quiet_79 : decode cX7_quiet 79 = .ok (.ifCond .eq 5, 3) := by decide +kernel
theorem dX7_quiet_82 : decode cX7_quiet 82 = .ok (.iload_n 2, 1) := by decide +kernel
theorem dX7_quiet_83 : decode cX7_quiet 83 = .ok (.ireturn, 1) := by decide +kernel
theorem dX7_quiet_84 : decode cX7_quiet 84 = .ok (.iinc 2 1, 3) := by decide +kernel
theorem dX7_quiet_87 : decode cX7_quiet 87 = .ok (.goto (-59), 3) := by decide +kernel
theorem dX7_quiet_90 : decode cX7_quiet 90 = .ok (.ldc 183, 2) := by decide +kernel
theorem dX7_quiet_92 : decode cX7_quiet 92 = .ok (.ireturn, 1) := by decide +kernel
theorem dX7_layRow_0 : decode cX7_layRow 0 = .ok (.iload_n 1, 1) := by decide +kernel
theorem dX7_layRow_1 : decode cX7_layRow 1 = .ok (.istore_n 2, 1) := by decide +kernel
theorem dX7_layRow_2 : decode cX7_layRow 2 = .ok (.iconst 1, 1) := by decide +kernel
theorem dX7_layRow_3 : decode cX7_layRow 3 = .ok (.istore_n 3, 1) := by decide +kernel
theorem dX7_layRow_4 : decode cX7_layRow 4 = .ok (.aload_n 0, 1) := by decide +kernel
theorem dX7_layRow_5 : decode cX7_layRow 5 = .ok (.getfield 22, 3) := by decide +kernel
theorem dX7_layRow_8 : decode cX7_layRow 8 = .ok (.iconst 2, 1) := by decide +kernel
theorem dX7_layRow_9 : decode cX7_layRow 9 = .ok (.iaload, 1) := by decide +kernel
theorem dX7_layRow_10 : decode cX7_layRow 10 = .ok (.istore 4, 2) := by decide +kernel
theorem dX7_layRow_12 : decode cX7_layRow 12 = .ok (.iconst 2, 1) := by decide +kernel
theorem dX7_layRow_13 : decode cX7_layRow 13 = .ok (.istore 5, 2) := by decide +kernel
theorem dX7_layRow_15 : decode cX7_layRow 15 = .ok (.iload 5, 2) := by decide +kernel
theorem dX7_layRow_17 : decode cX7_layRow 17 = .ok (.iload 4, 2) := by decide +kernel
theorem dX7_layRow_19 : decode cX7_layRow 19 = .ok (.if_icmp .ge 14, 3) := by decide +kernel
theorem dX7_layRow_22 : decode cX7_layRow 22 = .ok (.iload_n 3, 1) := by decide +kernel
theorem dX7_layRow_23 : decode cX7_layRow 23 = .ok (.iload 5, 2) := by decide +kernel
theorem dX7_layRow_25 : decode cX7_layRow 25 = .ok (.imul, 1) := by decide +kernel
theorem dX7_layRow_26 : decode cX7_layRow 26 = .ok (.istore_n 3, 1) := by decide +kernel
theorem dX7_layRow_27 : decode cX7_layRow 27 = .ok (.iinc 5 1, 3) := by decide +kernel
theorem dX7_layRow_30 : decode cX7_layRow 30 = .ok (.goto (-15), 3) := by decide +kernel
theorem dX7_layRow_33 : decode cX7_layRow 33 = .ok (.iconst 0, 1) := by decide +kernel
theorem dX7_layRow_34 : decode cX7_layRow 34 = .ok (.istore 5, 2) := by decide +kernel
theorem dX7_layRow_36 : decode cX7_layRow 36 = .ok (.iconst 0, 1) := by decide +kernel
theorem dX7_layRow_37 : decode cX7_layRow 37 = .ok (.istore 6, 2) := by decide +kernel
theorem dX7_layRow_39 : decode cX7_layRow 39 = .ok (.iload 6, 2) := by decide +kernel
theorem dX7_layRow_41 : decode cX7_layRow 41 = .ok (.iload 4, 2) := by decide +kernel
theorem dX7_layRow_43 : decode cX7_layRow 43 = .ok (.if_icmp .ge 104, 3) := by decide +kernel
theorem dX7_layRow_46 : decode cX7_layRow 46 = .ok (.iload_n 2, 1) := by decide +kernel
theorem dX7_layRow_47 : decode cX7_layRow 47 = .ok (.iload_n 3, 1) := by decide +kernel
theorem dX7_layRow_48 : decode cX7_layRow 48 = .ok (.idiv, 1) := by decide +kernel
theorem dX7_layRow_49 : decode cX7_layRow 49 = .ok (.istore 7, 2) := by decide +kernel
theorem dX7_layRow_51 : decode cX7_layRow 51 = .ok (.iload_n 2, 1) := by decide +kernel
theorem dX7_layRow_52 : decode cX7_layRow 52 = .ok (.iload_n 3, 1) := by decide +kernel
theorem dX7_layRow_53 : decode cX7_layRow 53 = .ok (.irem, 1) := by decide +kernel
theorem dX7_layRow_54 : decode cX7_layRow 54 = .ok (.istore_n 2, 1) := by decide +kernel
theorem dX7_layRow_55 : decode cX7_layRow 55 = .ok (.iload_n 3, 1) := by decide +kernel
theorem dX7_layRow_56 : decode cX7_layRow 56 = .ok (.iload 4, 2) := by decide +kernel
theorem dX7_layRow_58 : decode cX7_layRow 58 = .ok (.iconst 1, 1) := by decide +kernel
theorem dX7_layRow_59 : decode cX7_layRow 59 = .ok (.isub, 1) := by decide +kernel
theorem dX7_layRow_60 : decode cX7_layRow 60 = .ok (.iload 6, 2) := by decide +kernel
theorem dX7_layRow_62 : decode cX7_layRow 62 = .ok (.isub, 1) := by decide +kernel
theorem dX7_layRow_63 : decode cX7_layRow 63 = .ok (.ifCond .le 13, 3) := by decide +kernel
theorem dX7_layRow_66 : decode cX7_layRow 66 = .ok (.iload 4, 2) := by decide +kernel
theorem dX7_layRow_68 : decode cX7_layRow 68 = .ok (.iconst 1, 1) := by decide +kernel
theorem dX7_layRow_69 : decode cX7_layRow 69 = .ok (.isub, 1) := by decide +kernel
theorem dX7_layRow_70 : decode cX7_layRow 70 = .ok (.iload 6, 2) := by decide +kernel
theorem dX7_layRow_72 : decode cX7_layRow 72 = .ok (.isub, 1) := by decide +kernel
theorem dX7_layRow_73 : decode cX7_layRow 73 = .ok (.goto 4, 3) := by decide +kernel
theorem dX7_layRow_76 : decode cX7_layRow 76 = .ok (.iconst 1, 1) := by decide +kernel
theorem dX7_layRow_77 : decode cX7_layRow 77 = .ok (.idiv, 1) := by decide +kernel
theorem dX7_layRow_78 : decode cX7_layRow 78 = .ok (.istore_n 3, 1) := by decide +kernel
theorem dX7_layRow_79 : decode cX7_layRow 79 = .ok (.iconst 0, 1) := by decide +kernel
theorem dX7_layRow_80 : decode cX7_layRow 80 = .ok (.istore 8, 2) := by decide +kernel
theorem dX7_layRow_82 : decode cX7_layRow 82 = .ok (.iload 5, 2) := by decide +kernel
theorem dX7_layRow_84 : decode cX7_layRow 84 = .ok (.iload 8, 2) := by decide +kernel
theorem dX7_layRow_86 : decode cX7_layRow 86 = .ok (.invokestatic 140, 3) := by decide +kernel
theorem dX7_layRow_89 : decode cX7_layRow 89 = .ok (.ifCond .ne 8, 3) := by decide +kernel
theorem dX7_layRow_92 : decode cX7_layRow 92 = .ok (.iload 7, 2) := by decide +kernel
theorem dX7_layRow_94 : decode cX7_layRow 94 = .ok (.ifCond .le 29, 3) := by decide +kernel
theorem dX7_layRow_97 : decode cX7_layRow 97 = .ok (.iload 7, 2) := by decide +kernel
theorem dX7_layRow_99 : decode cX7_layRow 99 = .ok (.iload 5, 2) := by decide +kernel
theorem dX7_layRow_101 : decode cX7_layRow 101 = .ok (.iload 8, 2) := by decide +kernel
theorem dX7_layRow_103 : decode cX7_layRow 103 = .ok (.invokestatic 140, 3) := by decide +kernel
theorem dX7_layRow_106 : decode cX7_layRow 106 = .ok (.ifCond .eq 7, 3) := by decide +kernel
theorem dX7_layRow_109 : decode cX7_layRow 109 = .ok (.iconst 0, 1) := by decide +kernel
theorem dX7_layRow_110 : decode cX7_layRow 110 = .ok (.goto 4, 3) := by decide +kernel
theorem dX7_layRow_113 : decode cX7_layRow 113 = .ok (.iconst 1, 1) := by decide +kernel
theorem dX7_layRow_114 : decode cX7_layRow 114 = .ok (.isub, 1) := by decide +kernel
theorem dX7_layRow_115 : decode cX7_layRow 115 = .ok (.istore 7, 2) := by decide +kernel
theorem dX7_layRow_117 : decode cX7_layRow 117 = .ok (.iinc 8 1, 3) := by decide +kernel
theorem dX7_layRow_120 : decode cX7_layRow 120 = .ok (.goto (-38), 3) := by decide +kernel
theorem dX7_layRow_123 : decode cX7_layRow 123 = .ok (.aload_n 0, 1) := by decide +kernel
theorem dX7_layRow_124 : decode cX7_layRow 124 = .ok (.getfield 47, 3) := by decide +kernel
theorem dX7_layRow_127 : decode cX7_layRow 127 = .ok (.iload 6, 2) := by decide +kernel
theorem dX7_layRow_129 : decode cX7_layRow 129 = .ok (.iload 8, 2) := by decide +kernel
theorem dX7_layRow_131 : decode cX7_layRow 131 = .ok (.iastore, 1) := by decide +kernel
theorem dX7_layRow_132 : decode cX7_layRow 132 = .ok (.iload 5, 2) := by decide +kernel
theorem dX7_layRow_134 : decode cX7_layRow 134 = .ok (.iconst 1, 1) := by decide +kernel
theorem dX7_layRow_135 : decode cX7_layRow 135 = .ok (.iload 8, 2) := by decide +kernel
theorem dX7_layRow_137 : decode cX7_layRow 137 = .ok (.ishl, 1) := by decide +kernel
theorem dX7_layRow_138 : decode cX7_layRow 138 = .ok (.ior, 1) := by decide +kernel
theorem dX7_layRow_139 : decode cX7_layRow 139 = .ok (.istore 5, 2) := by decide +kernel
theorem dX7_layRow_141 : decode cX7_layRow 141 = .ok (.iinc 6 1, 3) := by decide +kernel
theorem dX7_layRow_144 : decode cX7_layRow 144 = .ok (.goto (-105), 3) := by decide +kernel
theorem dX7_layRow_147 : decode cX7_layRow 147 = .ok (.return_, 1) := by decide +kernel
theorem dX7_order_0 : decode cX7_order 0 = .ok (.aload_n 0, 1) := by decide +kernel
theorem dX7_order_1 : decode cX7_order 1 = .ok (.invokevirtual 151, 3) := by decide +kernel
theorem dX7_order_4 : decode cX7_order 4 = .ok (.ifCond .ne 6, 3) := by decide +kernel
theorem dX7_order_7 : decode cX7_order 7 = .ok (.ldc 154, 2) := by decide +kernel
theorem dX7_order_9 : decode cX7_order 9 = .ok (.ireturn, 1) := by decide +kernel
theorem dX7_order_10 : decode cX7_order 10 = .ok (.aload_n 0, 1) := by decide +kernel
theorem dX7_order_11 : decode cX7_order 11 = .ok (.iload_n 1, 1) := by decide +kernel
theorem dX7_order_12 : decode cX7_order 12 = .ok (.invokevirtual 188, 3) := by decide +kernel
theorem dX7_order_15 : decode cX7_order 15 = .ok (.ifCond .eq 12, 3) := by decide +kernel
theorem dX7_order_18 : decode cX7_order 18 = .ok (.iload_n 2, 1) := by decide +kernel
theorem dX7_order_19 : decode cX7_order 19 = .ok (.iconst (-1), 1) := by decide +kernel
theorem dX7_order_20 : decode cX7_order 20 = .ok (.iconst 5, 1) := by decide +kernel
theorem dX7_order_21 : decode cX7_order 21 = .ok (.invokestatic 56, 3) := by decide +kernel
theorem dX7_order_24 : decode cX7_order 24 = .ok (.ifCond .ne 6, 3) := by decide +kernel
theorem dX7_order_27 : decode cX7_order 27 = .ok (.ldc 69, 2) := by decide +kernel
theorem dX7_order_29 : decode cX7_order 29 = .ok (.ireturn, 1) := by decide +kernel
theorem dX7_order_30 : decode cX7_order 30 = .ok (.iconst 1, 1) := by decide +kernel
theorem dX7_order_31 : decode cX7_order 31 = .ok (.istore_n 3, 1) := by decide +kernel
theorem dX7_order_32 : decode cX7_order 32 = .ok (.iconst 2, 1) := by decide +kernel
theorem dX7_order_33 : decode cX7_order 33 = .ok (.istore 4, 2) := by decide +kernel
theorem dX7_order_35 : decode cX7_order 35 = .ok (.iload 4, 2) := by decide +kernel
theorem dX7_order_37 : decode cX7_order 37 = .ok (.aload_n 0, 1) := by decide +kernel
theorem dX7_order_38 : decode cX7_order 38 = .ok (.getfield 22, 3) := by decide +kernel
theorem dX7_order_41 : decode cX7_order 41 = .ok (.iconst 2, 1) := by decide +kernel
theorem dX7_order_42 : decode cX7_order 42 = .ok (.iaload, 1) := by decide +kernel
theorem dX7_order_43 : decode cX7_order 43 = .ok (.if_icmp .gt 14, 3) := by decide +kernel
theorem dX7_order_46 : decode cX7_order 46 = .ok (.iload_n 3, 1) := by decide +kernel
theorem dX7_order_47 : decode cX7_order 47 = .ok (.iload 4, 2) := by decide +kernel
theorem dX7_order_49 : decode cX7_order 49 = .ok (.imul, 1) := by decide +kernel
theorem dX7_order_50 : decode cX7_order 50 = .ok (.istore_n 3, 1) := by decide +kernel
theorem dX7_order_51 : decode cX7_order 51 = .ok (.iinc 4 1, 3) := by decide +kernel
theorem dX7_order_54 : decode cX7_order 54 = .ok (.goto (-19), 3) := by decide +kernel
theorem dX7_order_57 : decode cX7_order 57 = .ok (.ldc 183, 2) := by decide +kernel
theorem dX7_order_59 : decode cX7_order 59 = .ok (.istore 4, 2) := by decide +kernel
theorem dX7_order_61 : decode cX7_order 61 = .ok (.iconst 0, 1) := by decide +kernel
theorem dX7_order_62 : decode cX7_order 62 = .ok (.istore 5, 2) := by decide +kernel
theorem dX7_order_64 : decode cX7_order 64 = .ok (.iload 5, 2) := by decide +kernel
theorem dX7_order_66 : decode cX7_order 66 = .ok (.iload_n 3, 1) := by decide +kernel
theorem dX7_order_67 : decode cX7_order 67 = .ok (.if_icmp .ge 127, 3) := by decide +kernel
theorem dX7_order_70 : decode cX7_order 70 = .ok (.aload_n 0, 1) := by decide +kernel
theorem dX7_order_71 : decode cX7_order 71 = .ok (.iload 5, 2) := by decide +kernel
theorem dX7_order_73 : decode cX7_order 73 = .ok (.invokevirtual 194, 3) := by decide +kernel
theorem dX7_order_76 : decode cX7_order 76 = .ok (.aload_n 0, 1) := by decide +kernel
theorem dX7_order_77 : decode cX7_order 77 = .ok (.invokevirtual 176, 3) := by decide +kernel
theorem dX7_order_80 : decode cX7_order 80 = .ok (.iconst 0, 1) := by decide +kernel
theorem dX7_order_81 : decode cX7_order 81 = .ok (.istore 6, 2) := by decide +kernel
theorem dX7_order_83 : decode cX7_order 83 = .ok (.iload 6, 2) := by decide +kernel
theorem dX7_order_85 : decode cX7_order 85 = .ok (.aload_n 0, 1) := by decide +kernel
theorem dX7_order_86 : decode cX7_order 86 = .ok (.getfield 22, 3) := by decide +kernel
theorem dX7_order_89 : decode cX7_order 89 = .ok (.iconst 2, 1) := by decide +kernel
theorem dX7_order_90 : decode cX7_order 90 = .ok (.iaload, 1) := by decide +kernel
theorem dX7_order_91 : decode cX7_order 91 = .ok (.if_icmp .ge 25, 3) := by decide +kernel
theorem dX7_order_94 : decode cX7_order 94 = .ok (.aload_n 0, 1) := by decide +kernel
theorem dX7_order_95 : decode cX7_order 95 = .ok (.getfield 28, 3) := by decide +kernel
theorem dX7_order_98 : decode cX7_order 98 = .ok (.iconst 4, 1) := by decide +kernel
theorem dX7_order_99 : decode cX7_order 99 = .ok (.iload 6, 2) := by decide +kernel
theorem dX7_order_101 : decode cX7_order 101 = .ok (.iadd, 1) := by decide +kernel
theorem dX7_order_102 : decode cX7_order 102 = .ok (.aload_n 0, 1) := by decide +kernel
theorem dX7_order_103 : decode cX7_order 103 = .ok (.getfield 47, 3) := by decide +kernel
theorem dX7_order_106 : decode cX7_order 106 = .ok (.iload 6, 2) := by decide +kernel
theorem dX7_order_108 : decode cX7_order 108 = .ok (.iaload, 1) := by decide +kernel
theorem dX7_order_109 : decode cX7_order 109 = .ok (.iastore, 1) := by decide +kernel
theorem dX7_order_110 : decode cX7_order 110 = .ok (.iinc 6 1, 3) := by decide +kernel
theorem dX7_order_113 : decode cX7_order 113 = .ok (.goto (-30), 3) := by decide +kernel
theorem dX7_order_116 : decode cX7_order 116 = .ok (.aload_n 0, 1) := by decide +kernel
theorem dX7_order_117 : decode cX7_order 117 = .ok (.iload_n 1, 1) := by decide +kernel
theorem dX7_order_118 : decode cX7_order 118 = .ok (.aload_n 0, 1) := by decide +kernel
theorem dX7_order_119 : decode cX7_order 119 = .ok (.invokevirtual 158, 3) := by decide +kernel
theorem dX7_order_122 : decode cX7_order 122 = .ok (.bipush 99, 2) := by decide +kernel
theorem dX7_order_124 : decode cX7_order 124 = .ok (.invokevirtual 184, 3) := by decide +kernel
theorem dX7_order_127 : decode cX7_order 127 = .ok (.istore 6, 2) := by decide +kernel
theorem dX7_order_129 : decode cX7_order 129 = .ok (.iload 6, 2) := by decide +kernel
theorem dX7_order_131 : decode cX7_order 131 = .ok (.ldc 183, 2) := by decide +kernel
theorem dX7_order_133 : decode cX7_order 133 = .ok (.if_icmp .eq 55, 3) := by decide +kernel
theorem dX7_order_136 : decode cX7_order 136 = .ok (.iload 4, 2) := by decide +kernel
theorem dX7_order_138 : decode cX7_order 138 = .ok (.ldc 183, 2) := by decide +kernel
theorem dX7_order_140 : decode cX7_order 140 = .ok (.if_icmp .eq 10, 3) := by decide +kernel
theorem dX7_order_143 : decode cX7_order 143 = .ok (.iload 6, 2) := by decide +kernel
theorem dX7_order_145 : decode cX7_order 145 = .ok (.iload 4, 2) := by decide +kernel
theorem dX7_order_147 : decode cX7_order 147 = .ok (.if_icmp .ge 41, 3) := by decide +kernel
theorem dX7_order_150 : decode cX7_order 150 = .ok (.iload 6, 2) := by decide +kernel
theorem dX7_order_152 : decode cX7_order 152 = .ok (.istore 4, 2) := by decide +kernel
theorem dX7_order_154 : decode cX7_order 154 = .ok (.iconst 0, 1) := by decide +kernel
theorem dX7_order_155 : decode cX7_order 155 = .ok (.istore 7, 2) := by decide +kernel
theorem dX7_order_157 : decode cX7_order 157 = .ok (.iload 7, 2) := by decide +kernel
theorem dX7_order_159 : decode cX7_order 159 = .ok (.aload_n 0, 1) := by decide +kernel
theorem dX7_order_160 : decode cX7_order 160 = .ok (.getfield 22, 3) := by decide +kernel
theorem dX7_order_163 : decode cX7_order 163 = .ok (.iconst 2, 1) := by decide +kernel
theorem dX7_order_164 : decode cX7_order 164 = .ok (.iaload, 1) := by decide +kernel
theorem dX7_order_165 : decode cX7_order 165 = .ok (.if_icmp .ge 23, 3) := by decide +kernel
theorem dX7_order_168 : decode cX7_order 168 = .ok (.aload_n 0, 1) := by decide +kernel
theorem dX7_order_169 : decode cX7_order 169 = .ok (.getfield 50, 3) := by decide +kernel
theorem dX7_order_172 : decode cX7_order 172 = .ok (.iload 7, 2) := by decide +kernel
theorem dX7_order_174 : decode cX7_order 174 = .ok (.aload_n 0, 1) := by decide +kernel
theorem dX7_order_175 : decode cX7_order 175 = .ok (.getfield 47, 3) := by decide +kernel
theorem dX7_order_178 : decode cX7_order 178 = .ok (.iload 7, 2) := by decide +kernel
theorem dX7_order_180 : decode cX7_order 180 = .ok (.iaload, 1) := by decide +kernel
theorem dX7_order_181 : decode cX7_order 181 = .ok (.iastore, 1) := by decide +kernel
theorem dX7_order_182 : decode cX7_order 182 = .ok (.iinc 7 1, 3) := by decide +kernel
theorem dX7_order_185 : decode cX7_order 185 = .ok (.goto (-28), 3) := by decide +kernel
theorem dX7_order_188 : decode cX7_order 188 = .ok (.iinc 5 1, 3) := by decide +kernel
theorem dX7_order_191 : decode cX7_order 191 = .ok (.goto (-127), 3) := by decide +kernel
theorem dX7_order_194 : decode cX7_order 194 = .ok (.iload_n 2, 1) := by decide +kernel
theorem dX7_order_195 : decode cX7_order 195 = .ok (.ifCond .lt 10, 3) := by decide +kernel
theorem dX7_order_198 : decode cX7_order 198 = .ok (.iload 4, 2) := by decide +kernel
theorem dX7_order_200 : decode cX7_order 200 = .ok (.ldc 183, 2) := by decide +kernel
theorem dX7_order_202 : decode cX7_order 202 = .ok (.if_icmp .ne 8, 3) := by decide +kernel
theorem dX7_order_205 : decode cX7_order 205 = .ok (.iload 4, 2) := by decide +kernel
theorem dX7_order_207 : decode cX7_order 207 = .ok (.goto 24, 3) := by decide +kernel
theorem dX7_order_210 : decode cX7_order 210 = .ok (.iload_n 2, 1) := by decide +kernel
theorem dX7_order_211 : decode cX7_order 211 = .ok (.aload_n 0, 1) := by decide +kernel
theorem dX7_order_212 : decode cX7_order 212 = .ok (.getfield 22, 3) := by decide +kernel
theorem dX7_order_215 : decode cX7_order 215 = .ok (.iconst 2, 1) := by decide +kernel
theorem dX7_order_216 : decode cX7_order 216 = .ok (.iaload, 1) := by decide +kernel
theorem dX7_order_217 : decode cX7_order 217 = .ok (.if_icmp .ge 12, 3) := by decide +kernel
theorem dX7_order_220 : decode cX7_order 220 = .ok (.aload_n 0, 1) := by decide +kernel
theorem dX7_order_221 : decode cX7_order 221 = .ok (.getfield 50, 3) := by decide +kernel
theorem dX7_order_224 : decode cX7_order 224 = .ok (.iload_n 2, 1) := by decide +kernel
theorem dX7_order_225 : decode cX7_order 225 = .ok (.iaload, 1) := by decide +kernel
theorem dX7_order_226 : decode cX7_order 226 = .ok (.goto 5, 3) := by decide +kernel
theorem dX7_order_229 : decode cX7_order 229 = .ok (.ldc 183, 2) := by decide +kernel
theorem dX7_order_231 : decode cX7_order 231 = .ok (.ireturn, 1) := by decide +kernel
theorem dX7_fewest_0 : decode cX7_fewest 0 = .ok (.aload_n 0, 1) := by decide +kernel
theorem dX7_fewest_1 : decode cX7_fewest 1 = .ok (.invokevirtual 151, 3) := by decide +kernel
theorem dX7_fewest_4 : decode cX7_fewest 4 = .ok (.ifCond .ne 6, 3) := by decide +kernel
theorem dX7_fewest_7 : decode cX7_fewest 7 = .ok (.ldc 154, 2) := by decide +kernel
theorem dX7_fewest_9 : decode cX7_fewest 9 = .ok (.ireturn, 1) := by decide +kernel
theorem dX7_fewest_10 : decode cX7_fewest 10 = .ok (.aload_n 0, 1) := by decide +kernel
theorem dX7_fewest_11 : decode cX7_fewest 11 = .ok (.iload_n 1, 1) := by decide +kernel
theorem dX7_fewest_12 : decode cX7_fewest 12 = .ok (.invokevirtual 188, 3) := by decide +kernel
theorem dX7_fewest_15 : decode cX7_fewest 15 = .ok (.ifCond .eq 22, 3) := by decide +kernel
theorem dX7_fewest_18 : decode cX7_fewest 18 = .ok (.iload_n 2, 1) := by decide +kernel
theorem dX7_fewest_19 : decode cX7_fewest 19 = .ok (.iconst 0, 1) := by decide +kernel
theorem dX7_fewest_20 : decode cX7_fewest 20 = .ok (.bipush 99, 2) := by decide +kernel
theorem dX7_fewest_22 : decode cX7_fewest 22 = .ok (.invokestatic 56, 3) := by decide +kernel
theorem dX7_fewest_25 : decode cX7_fewest 25 = .ok (.ifCond .eq 12, 3) := by decide +kernel
theorem dX7_fewest_28 : decode cX7_fewest 28 = .ok (.iload_n 3, 1) := by decide +kernel
theorem dX7_fewest_29 : decode cX7_fewest 29 = .ok (.iconst 0, 1) := by decide +kernel
theorem dX7_fewest_30 : decode cX7_fewest 30 = .ok (.iconst 1, 1) := by decide +kernel
theorem dX7_fewest_31 : decode cX7_fewest 31 = .ok (.invokestatic 56, 3) := by decide +kernel
theorem dX7_fewest_34 : decode cX7_fewest 34 = .ok (.ifCond .ne 6, 3) := by decide +kernel
theorem dX7_fewest_37 : decode cX7_fewest 37 = .ok (.ldc 69, 2) := by decide +kernel
theorem dX7_fewest_39 : decode cX7_fewest 39 = .ok (.ireturn, 1) := by decide +kernel
theorem dX7_fewest_40 : decode cX7_fewest 40 = .ok (.iconst 0, 1) := by decide +kernel
theorem dX7_fewest_41 : decode cX7_fewest 41 = .ok (.istore 4, 2) := by decide +kernel
theorem dX7_fewest_43 : decode cX7_fewest 43 = .ok (.iconst 1, 1) := by decide +kernel
theorem dX7_fewest_44 : decode cX7_fewest 44 = .ok (.istore 5, 2) := by decide +kernel
theorem dX7_fewest_46 : decode cX7_fewest 46 = .ok (.iload 5, 2) := by decide +kernel
theorem dX7_fewest_48 : decode cX7_fewest 48 = .ok (.aload_n 0, 1) := by decide +kernel
theorem dX7_fewest_49 : decode cX7_fewest 49 = .ok (.invokevirtual 158, 3) := by decide +kernel
theorem dX7_fewest_52 : decode cX7_fewest 52 = .ok (.if_icmp .gt 53, 3) := by decide +kernel
theorem dX7_fewest_55 : decode cX7_fewest 55 = .ok (.iload 4, 2) := by decide +kernel
theorem dX7_fewest_57 : decode cX7_fewest 57 = .ok (.ifCond .eq 16, 3) := by decide +kernel
theorem dX7_fewest_60 : decode cX7_fewest 60 = .ok (.iload 5, 2) := by decide +kernel
theorem dX7_fewest_62 : decode cX7_fewest 62 = .ok (.invokestatic 137, 3) := by decide +kernel
theorem dX7_fewest_65 : decode cX7_fewest 65 = .ok (.iload 4, 2) := by decide +kernel
theorem dX7_fewest_67 : decode cX7_fewest 67 = .ok (.invokestatic 137, 3) := by decide +kernel
theorem dX7_fewest_70 : decode cX7_fewest 70 = .ok (.if_icmp .ge 29, 3) := by decide +kernel
theorem dX7_fewest_73 : decode cX7_fewest 73 = .ok (.aload_n 0, 1) := by decide +kernel
theorem dX7_fewest_74 : decode cX7_fewest 74 = .ok (.invokevirtual 176, 3) := by decide +kernel
theorem dX7_fewest_77 : decode cX7_fewest 77 = .ok (.aload_n 0, 1) := by decide +kernel
theorem dX7_fewest_78 : decode cX7_fewest 78 = .ok (.iload_n 1, 1) := by decide +kernel
theorem dX7_fewest_79 : decode cX7_fewest 79 = .ok (.iload 5, 2) := by decide +kernel
theorem dX7_fewest_81 : decode cX7_fewest 81 = .ok (.iload_n 2, 1) := by decide +kernel
theorem dX7_fewest_82 : decode cX7_fewest 82 = .ok (.invokevirtual 184, 3) := by decide +kernel
theorem dX7_fewest_85 : decode cX7_fewest 85 = .ok (.ldc 183, 2) := by decide +kernel
theorem dX7_fewest_87 : decode cX7_fewest 87 = .ok (.if_icmp .ne 8, 3) := by decide +kernel
theorem dX7_fewest_90 : decode cX7_fewest 90 = .ok (.iload 4, 2) := by decide +kernel
theorem dX7_fewest_92 : decode cX7_fewest 92 = .ok (.goto 5, 3) := by decide +kernel
theorem dX7_fewest_95 : decode cX7_fewest 95 = .ok (.iload 5, 2) := by decide +kernel
theorem dX7_fewest_97 : decode cX7_fewest 97 = .ok (.istore 4, 2) := by decide +kernel
theorem dX7_fewest_99 : decode cX7_fewest 99 = .ok (.iinc 5 1, 3) := by decide +kernel
theorem dX7_fewest_102 : decode cX7_fewest 102 = .ok (.goto (-56), 3) := by decide +kernel
theorem dX7_fewest_105 : decode cX7_fewest 105 = .ok (.iload 4, 2) := by decide +kernel
theorem dX7_fewest_107 : decode cX7_fewest 107 = .ok (.ifCond .ne 8, 3) := by decide +kernel
theorem dX7_fewest_110 : decode cX7_fewest 110 = .ok (.ldc 183, 2) := by decide +kernel
theorem dX7_fewest_112 : decode cX7_fewest 112 = .ok (.goto 17, 3) := by decide +kernel
theorem dX7_fewest_115 : decode cX7_fewest 115 = .ok (.iload_n 3, 1) := by decide +kernel
theorem dX7_fewest_116 : decode cX7_fewest 116 = .ok (.ifCond .ne 11, 3) := by decide +kernel
theorem dX7_fewest_119 : decode cX7_fewest 119 = .ok (.iload 4, 2) := by decide +kernel
theorem dX7_fewest_121 : decode cX7_fewest 121 = .ok (.invokestatic 137, 3) := by decide +kernel
theorem dX7_fewest_124 : decode cX7_fewest 124 = .ok (.goto 5, 3) := by decide +kernel
theorem dX7_fewest_127 : decode cX7_fewest 127 = .ok (.iload 4, 2) := by decide +kernel
theorem dX7_fewest_129 : decode cX7_fewest 129 = .ok (.ireturn, 1) := by decide +kernel
theorem dX7_takeOut_0 : decode cX7_takeOut 0 = .ok (.aload_n 0, 1) := by decide +kernel
theorem dX7_takeOut_1 : decode cX7_takeOut 1 = .ok (.getfield 7, 3) := by decide +kernel
theorem dX7_takeOut_4 : decode cX7_takeOut 4 = .ok (.iload_n 1, 1) := by decide +kernel
theorem dX7_takeOut_5 : decode cX7_takeOut 5 = .ok (.iaload, 1) := by decide +kernel
theorem dX7_takeOut_6 : decode cX7_takeOut 6 = .ok (.ifCond .ge 9, 3) := by decide +kernel
theorem dX7_takeOut_9 : decode cX7_takeOut 9 = .ok (.aload_n 0, 1) := by decide +kernel
theorem dX7_takeOut_10 : decode cX7_takeOut 10 = .ok (.iconst 1, 1) := by decide +kernel
theorem dX7_takeOut_11 : decode cX7_takeOut 11 = .ok (.invokevirtual 70, 3) := by decide +kernel
theorem dX7_takeOut_14 : decode cX7_takeOut 14 = .ok (.ireturn, 1) := by decide +kernel
theorem dX7_takeOut_15 : decode cX7_takeOut 15 = .ok (.iload_n 2, 1) := by decide +kernel
theorem dX7_takeOut_16 : decode cX7_takeOut 16 = .ok (.iload_n 3, 1) := by decide +kernel
theorem dX7_takeOut_17 : decode cX7_takeOut 17 = .ok (.aload_n 0, 1) := by decide +kernel
theorem dX7_takeOut_18 : decode cX7_takeOut 18 = .ok (.getfield 13, 3) := by decide +kernel
theorem dX7_takeOut_21 : decode cX7_takeOut 21 = .ok (.iload_n 1, 1) := by decide +kernel
theorem dX7_takeOut_22 : decode cX7_takeOut 22 = .ok (.iaload, 1) := by decide +kernel
theorem dX7_takeOut_23 : decode cX7_takeOut 23 = .ok (.invokestatic 77, 3) := by decide +kernel
theorem dX7_takeOut_26 : decode cX7_takeOut 26 = .ok (.ifCond .ne 9, 3) := by decide +kernel
theorem dX7_takeOut_29 : decode cX7_takeOut 29 = .ok (.aload_n 0, 1) := by decide +kernel
theorem dX7_takeOut_30 : decode cX7_takeOut 30 = .ok (.iconst 2, 1) := by decide +kernel
theorem dX7_takeOut_31 : decode cX7_takeOut 31 = .ok (.invokevirtual 70, 3) := by decide +kernel
theorem dX7_takeOut_34 : decode cX7_takeOut 34 = .ok (.ireturn, 1) := by decide +kernel
theorem dX7_takeOut_35 : decode cX7_takeOut 35 = .ok (.iconst 0, 1) := by decide +kernel
theorem dX7_takeOut_36 : decode cX7_takeOut 36 = .ok (.istore 4, 2) := by decide +kernel
theorem dX7_takeOut_38 : decode cX7_takeOut 38 = .ok (.iload 4, 2) := by decide +kernel
theorem dX7_takeOut_40 : decode cX7_takeOut 40 = .ok (.iload_n 3, 1) := by decide +kernel
theorem dX7_takeOut_41 : decode cX7_takeOut 41 = .ok (.if_icmp .ge 30, 3) := by decide +kernel
theorem dX7_takeOut_44 : decode cX7_takeOut 44 = .ok (.aload_n 0, 1) := by decide +kernel
theorem dX7_takeOut_45 : decode cX7_takeOut 45 = .ok (.getfield 44, 3) := by decide +kernel
theorem dX7_takeOut_48 : decode cX7_takeOut 48 = .ok (.iload 4, 2) := by decide +kernel
theorem dX7_takeOut_50 : decode cX7_takeOut 50 = .ok (.aload_n 0, 1) := by decide +kernel
theorem dX7_takeOut_51 : decode cX7_takeOut 51 = .ok (.getfield 16, 3) := by decide +kernel
theorem dX7_takeOut_54 : decode cX7_takeOut 54 = .ok (.bipush 40, 2) := by decide +kernel
theorem dX7_takeOut_56 : decode cX7_takeOut 56 = .ok (.iload_n 1, 1) := by decide +kernel
theorem dX7_takeOut_57 : decode cX7_takeOut 57 = .ok (.imul, 1) := by decide +kernel
theorem dX7_takeOut_58 : decode cX7_takeOut 58 = .ok (.iload_n 2, 1) := by decide +kernel
theorem dX7_takeOut_59 : decode cX7_takeOut 59 = .ok (.iadd, 1) := by decide +kernel
theorem dX7_takeOut_60 : decode cX7_takeOut 60 = .ok (.iload 4, 2) := by decide +kernel
theorem dX7_takeOut_62 : decode cX7_takeOut 62 = .ok (.iadd, 1) := by decide +kernel
theorem dX7_takeOut_63 : decode cX7_takeOut 63 = .ok (.iaload, 1) := by decide +kernel
theorem dX7_takeOut_64 : decode cX7_takeOut 64 = .ok (.iastore, 1) := by decide +kernel
theorem dX7_takeOut_65 : decode cX7_takeOut 65 = .ok (.iinc 4 1, 3) := by decide +kernel
theorem dX7_takeOut_68 : decode cX7_takeOut 68 = .ok (.goto (-30), 3) := by decide +kernel
theorem dX7_takeOut_71 : decode cX7_takeOut 71 = .ok (.iconst 0, 1) := by decide +kernel
theorem dX7_takeOut_72 : decode cX7_takeOut 72 = .ok (.ireturn, 1) := by decide +kernel
theorem dX7_isSo_0 : decode cX7_isSo 0 = .ok (.iconst 1, 1) := by decide +kernel
theorem dX7_isSo_1 : decode cX7_isSo 1 = .ok (.istore_n 3, 1) := by decide +kernel
theorem dX7_isSo_2 : decode cX7_isSo 2 = .ok (.iconst 0, 1) := by decide +kernel
theorem dX7_isSo_3 : decode cX7_isSo 3 = .ok (.istore 4, 2) := by decide +kernel
theorem dX7_isSo_5 : decode cX7_isSo 5 = .ok (.iload 4, 2) := by decide +kernel
theorem dX7_isSo_7 : decode cX7_isSo 7 = .ok (.iload_n 1, 1) := by decide +kernel
theorem dX7_isSo_8 : decode cX7_isSo 8 = .ok (.if_icmp .ge 47, 3) := by decide +kernel
theorem dX7_isSo_11 : decode cX7_isSo 11 = .ok (.aload_n 0, 1) := by decide +kernel
theorem dX7_isSo_12 : decode cX7_isSo 12 = .ok (.getfield 28, 3) := by decide +kernel
theorem dX7_isSo_15 : decode cX7_isSo 15 = .ok (.iload_n 2, 1) := by decide +kernel
theorem dX7_isSo_16 : decode cX7_isSo 16 = .ok (.invokestatic 162, 3) := by decide +kernel
theorem dX7_isSo_19 : decode cX7_isSo 19 = .ok (.iload_n 3, 1) := by decide +kernel
theorem dX7_isSo_20 : decode cX7_isSo 20 = .ok (.ifCond .eq 27, 3) := by decide +kernel
theorem dX7_isSo_23 : decode cX7_isSo 23 = .ok (.aload_n 0, 1) := by decide +kernel
theorem dX7_isSo_24 : decode cX7_isSo 24 = .ok (.getfield 28, 3) := by decide +kernel
theorem dX7_isSo_27 : decode cX7_isSo 27 = .ok (.invokestatic 166, 3) := by decide +kernel
theorem dX7_isSo_30 : decode cX7_isSo 30 = .ok (.invokestatic 137, 3) := by decide +kernel
theorem dX7_isSo_33 : decode cX7_isSo 33 = .ok (.aload_n 0, 1) := by decide +kernel
theorem dX7_isSo_34 : decode cX7_isSo 34 = .ok (.getfield 44, 3) := by decide +kernel
theorem dX7_isSo_37 : decode cX7_isSo 37 = .ok (.iload 4, 2) := by decide +kernel
theorem dX7_isSo_39 : decode cX7_isSo 39 = .ok (.iaload, 1) := by decide +kernel
theorem dX7_isSo_40 : decode cX7_isSo 40 = .ok (.if_icmp .ne 7, 3) := by decide +kernel
theorem dX7_isSo_43 : decode cX7_isSo 43 = .ok (.iconst 1, 1) := by decide +kernel
theorem dX7_isSo_44 : decode cX7_isSo 44 = .ok (.goto 4, 3) := by decide +kernel
theorem dX7_isSo_47 : decode cX7_isSo 47 = .ok (.iconst 0, 1) := by decide +kernel
theorem dX7_isSo_48 : decode cX7_isSo 48 = .ok (.istore_n 3, 1) := by decide +kernel
theorem dX7_isSo_49 : decode cX7_isSo 49 = .ok (.iinc 4 1, 3) := by decide +kernel
theorem dX7_isSo_52 : decode cX7_isSo 52 = .ok (.goto (-47), 3) := by decide +kernel
theorem dX7_isSo_55 : decode cX7_isSo 55 = .ok (.iload_n 3, 1) := by decide +kernel
theorem dX7_isSo_56 : decode cX7_isSo 56 = .ok (.ireturn, 1) := by decide +kernel
theorem dX7_missing_0 : decode cX7_missing 0 = .ok (.aload_n 0, 1) := by decide +kernel
theorem dX7_missing_1 : decode cX7_missing 1 = .ok (.invokevirtual 151, 3) := by decide +kernel
theorem dX7_missing_4 : decode cX7_missing 4 = .ok (.ifCond .ne 6, 3) := by decide +kernel
theorem dX7_missing_7 : decode cX7_missing 7 = .ok (.ldc 154, 2) := by decide +kernel
theorem dX7_missing_9 : decode cX7_missing 9 = .ok (.ireturn, 1) := by decide +kernel
theorem dX7_missing_10 : decode cX7_missing 10 = .ok (.iload_n 1, 1) := by decide +kernel
theorem dX7_missing_11 : decode cX7_missing 11 = .ok (.invokestatic 65, 3) := by decide +kernel
theorem dX7_missing_14 : decode cX7_missing 14 = .ok (.ifCond .eq 13, 3) := by decide +kernel
theorem dX7_missing_17 : decode cX7_missing 17 = .ok (.iload_n 3, 1) := by decide +kernel
theorem dX7_missing_18 : decode cX7_missing 18 = .ok (.iconst 1, 1) := by decide +kernel
theorem dX7_missing_19 : decode cX7_missing 19 = .ok (.bipush 16, 2) := by decide +kernel
theorem dX7_missing_21 : decode cX7_missing 21 = .ok (.invokestatic 56, 3) := by decide +kernel
theorem dX7_missing_24 : decode cX7_missing 24 = .ok (.ifCond .ne 6, 3) := by decide +kernel
theorem dX7_missing_27 : decode cX7_missing 27 = .ok (.ldc 69, 2) := by decide +kernel
theorem dX7_missing_29 : decode cX7_missing 29 = .ok (.ireturn, 1) := by decide +kernel
theorem dX7_missing_30 : decode cX7_missing 30 = .ok (.aload_n 0, 1) := by decide +kernel
theorem dX7_missing_31 : decode cX7_missing 31 = .ok (.iload_n 1, 1) := by decide +kernel
theorem dX7_missing_32 : decode cX7_missing 32 = .ok (.iload_n 2, 1) := by decide +kernel
theorem dX7_missing_33 : decode cX7_missing 33 = .ok (.iload_n 3, 1) := by decide +kernel
theorem dX7_missing_34 : decode cX7_missing 34 = .ok (.invokevirtual 197, 3) := by decide +kernel
theorem dX7_missing_37 : decode cX7_missing 37 = .ok (.istore 4, 2) := by decide +kernel
theorem dX7_missing_39 : decode cX7_missing 39 = .ok (.iload 4, 2) := by decide +kernel
theorem dX7_missing_41 : decode cX7_missing 41 = .ok (.ifCond .ge 6, 3) := by decide +kernel
theorem dX7_missing_44 : decode cX7_missing 44 = .ok (.iload 4, 2) := by decide +kernel
theorem dX7_missing_46 : decode cX7_missing 46 = .ok (.ireturn, 1) := by decide +kernel
theorem dX7_missing_47 : decode cX7_missing 47 = .ok (.iconst 0, 1) := by decide +kernel
theorem dX7_missing_48 : decode cX7_missing 48 = .ok (.istore 5, 2) := by decide +kernel
theorem dX7_missing_50 : decode cX7_missing 50 = .ok (.iconst 0, 1) := by decide +kernel
theorem dX7_missing_51 : decode cX7_missing 51 = .ok (.istore 6, 2) := by decide +kernel
theorem dX7_missing_53 : decode cX7_missing 53 = .ok (.iload 6, 2) := by decide +kernel
theorem dX7_missing_55 : decode cX7_missing 55 = .ok (.aload_n 0, 1) := by decide +kernel
theorem dX7_missing_56 : decode cX7_missing 56 = .ok (.getfield 22, 3) := by decide +kernel
theorem dX7_missing_59 : decode cX7_missing 59 = .ok (.iconst 2, 1) := by decide +kernel
theorem dX7_missing_60 : decode cX7_missing 60 = .ok (.iaload, 1) := by decide +kernel
theorem dX7_missing_61 : decode cX7_missing 61 = .ok (.if_icmp .ge 55, 3) := by decide +kernel
theorem dX7_missing_64 : decode cX7_missing 64 = .ok (.aload_n 0, 1) := by decide +kernel
theorem dX7_missing_65 : decode cX7_missing 65 = .ok (.getfield 22, 3) := by decide +kernel
theorem dX7_missing_68 : decode cX7_missing 68 = .ok (.iconst 2, 1) := by decide +kernel
theorem dX7_missing_69 : decode cX7_missing 69 = .ok (.iaload, 1) := by decide +kernel
theorem dX7_missing_70 : decode cX7_missing 70 = .ok (.iconst 1, 1) := by decide +kernel
theorem dX7_missing_71 : decode cX7_missing 71 = .ok (.if_icmp .le 45, 3) := by decide +kernel
theorem dX7_missing_74 : decode cX7_missing 74 = .ok (.aload_n 0, 1) := by decide +kernel
theorem dX7_missing_75 : decode cX7_missing 75 = .ok (.invokevirtual 176, 3) := by decide +kernel
theorem dX7_missing_78 : decode cX7_missing 78 = .ok (.iload 5, 2) := by decide +kernel
theorem dX7_missing_80 : decode cX7_missing 80 = .ok (.aload_n 0, 1) := by decide +kernel
theorem dX7_missing_81 : decode cX7_missing 81 = .ok (.iload_n 3, 1) := by decide +kernel
theorem dX7_missing_82 : decode cX7_missing 82 = .ok (.aload_n 0, 1) := by decide +kernel
theorem dX7_missing_83 : decode cX7_missing 83 = .ok (.invokevirtual 158, 3) := by decide +kernel
theorem dX7_missing_86 : decode cX7_missing 86 = .ok (.iconst 1, 1) := by decide +kernel
theorem dX7_missing_87 : decode cX7_missing 87 = .ok (.iload 6, 2) := by decide +kernel
theorem dX7_missing_89 : decode cX7_missing 89 = .ok (.ishl, 1) := by decide +kernel
theorem dX7_missing_90 : decode cX7_missing 90 = .ok (.iconst (-1), 1) := by decide +kernel
theorem dX7_missing_91 : decode cX7_missing 91 = .ok (.ixor, 1) := by decide +kernel
theorem dX7_missing_92 : decode cX7_missing 92 = .ok (.iand, 1) := by decide +kernel
theorem dX7_missing_93 : decode cX7_missing 93 = .ok (.invokevirtual 200, 3) := by decide +kernel
theorem dX7_missing_96 : decode cX7_missing 96 = .ok (.ifCond .eq 10, 3) := by decide +kernel
theorem dX7_missing_99 : decode cX7_missing 99 = .ok (.iconst 1, 1) := by decide +kernel
theorem dX7_missing_100 : decode cX7_missing 100 = .ok (.iload 6, 2) := by decide +kernel
theorem dX7_missing_102 : decode cX7_missing 102 = .ok (.ishl, 1) := by decide +kernel
theorem dX7_missing_103 : decode cX7_missing 103 = .ok (.goto 4, 3) := by decide +kernel
theorem dX7_missing_106 : decode cX7_missing 106 = .ok (.iconst 0, 1) := by decide +kernel
theorem dX7_missing_107 : decode cX7_missing 107 = .ok (.ior, 1) := by decide +kernel
theorem dX7_missing_108 : decode cX7_missing 108 = .ok (.istore 5, 2) := by decide +kernel
theorem dX7_missing_110 : decode cX7_missing 110 = .ok (.iinc 6 1, 3) := by decide +kernel
theorem dX7_missing_113 : decode cX7_missing 113 = .ok (.goto (-60), 3) := by decide +kernel
theorem dX7_missing_116 : decode cX7_missing 116 = .ok (.aload_n 0, 1) := by decide +kernel
theorem dX7_missing_117 : decode cX7_missing 117 = .ok (.iload 5, 2) := by decide +kernel
theorem dX7_missing_119 : decode cX7_missing 119 = .ok (.invokevirtual 74, 3) := by decide +kernel
theorem dX7_missing_122 : decode cX7_missing 122 = .ok (.ireturn, 1) := by decide +kernel
theorem dX7_windy_0 : decode cX7_windy 0 = .ok (.aload_n 0, 1) := by decide +kernel
theorem dX7_windy_1 : decode cX7_windy 1 = .ok (.invokevirtual 151, 3) := by decide +kernel
theorem dX7_windy_4 : decode cX7_windy 4 = .ok (.ifCond .ne 6, 3) := by decide +kernel
theorem dX7_windy_7 : decode cX7_windy 7 = .ok (.ldc 154, 2) := by decide +kernel
theorem dX7_windy_9 : decode cX7_windy 9 = .ok (.ireturn, 1) := by decide +kernel
theorem dX7_windy_10 : decode cX7_windy 10 = .ok (.iload_n 1, 1) := by decide +kernel
theorem dX7_windy_11 : decode cX7_windy 11 = .ok (.invokestatic 65, 3) := by decide +kernel
theorem dX7_windy_14 : decode cX7_windy 14 = .ok (.ifCond .eq 13, 3) := by decide +kernel
theorem dX7_windy_17 : decode cX7_windy 17 = .ok (.iload_n 3, 1) := by decide +kernel
theorem dX7_windy_18 : decode cX7_windy 18 = .ok (.iconst 1, 1) := by decide +kernel
theorem dX7_windy_19 : decode cX7_windy 19 = .ok (.bipush 16, 2) := by decide +kernel
theorem dX7_windy_21 : decode cX7_windy 21 = .ok (.invokestatic 56, 3) := by decide +kernel
theorem dX7_windy_24 : decode cX7_windy 24 = .ok (.ifCond .ne 6, 3) := by decide +kernel
theorem dX7_windy_27 : decode cX7_windy 27 = .ok (.ldc 69, 2) := by decide +kernel
theorem dX7_windy_29 : decode cX7_windy 29 = .ok (.ireturn, 1) := by decide +kernel
theorem dX7_windy_30 : decode cX7_windy 30 = .ok (.aload_n 0, 1) := by decide +kernel
theorem dX7_windy_31 : decode cX7_windy 31 = .ok (.iload_n 1, 1) := by decide +kernel
theorem dX7_windy_32 : decode cX7_windy 32 = .ok (.iload_n 2, 1) := by decide +kernel
theorem dX7_windy_33 : decode cX7_windy 33 = .ok (.iload_n 3, 1) := by decide +kernel
theorem dX7_windy_34 : decode cX7_windy 34 = .ok (.invokevirtual 197, 3) := by decide +kernel
theorem dX7_windy_37 : decode cX7_windy 37 = .ok (.istore 4, 2) := by decide +kernel
theorem dX7_windy_39 : decode cX7_windy 39 = .ok (.iload 4, 2) := by decide +kernel
theorem dX7_windy_41 : decode cX7_windy 41 = .ok (.ifCond .ge 6, 3) := by decide +kernel
theorem dX7_windy_44 : decode cX7_windy 44 = .ok (.iload 4, 2) := by decide +kernel
theorem dX7_windy_46 : decode cX7_windy 46 = .ok (.ireturn, 1) := by decide +kernel
theorem dX7_windy_47 : decode cX7_windy 47 = .ok (.iconst 0, 1) := by decide +kernel
theorem dX7_windy_48 : decode cX7_windy 48 = .ok (.istore 5, 2) := by decide +kernel
theorem dX7_windy_50 : decode cX7_windy 50 = .ok (.iconst 0, 1) := by decide +kernel
theorem dX7_windy_51 : decode cX7_windy 51 = .ok (.istore 6, 2) := by decide +kernel
theorem dX7_windy_53 : decode cX7_windy 53 = .ok (.iload 6, 2) := by decide +kernel
theorem dX7_windy_55 : decode cX7_windy 55 = .ok (.bipush 10, 2) := by decide +kernel
theorem dX7_windy_57 : decode cX7_windy 57 = .ok (.if_icmp .ge 46, 3) := by decide +kernel
theorem dX7_windy_60 : decode cX7_windy 60 = .ok (.aload_n 0, 1) := by decide +kernel
theorem dX7_windy_61 : decode cX7_windy 61 = .ok (.invokevirtual 176, 3) := by decide +kernel
theorem dX7_windy_64 : decode cX7_windy 64 = .ok (.aload_n 0, 1) := by decide +kernel
theorem dX7_windy_65 : decode cX7_windy 65 = .ok (.getfield 28, 3) := by decide +kernel
theorem dX7_windy_68 : decode cX7_windy 68 = .ok (.iconst 1, 1) := by decide +kernel
theorem dX7_windy_69 : decode cX7_windy 69 = .ok (.iload 6, 2) := by decide +kernel
theorem dX7_windy_71 : decode cX7_windy 71 = .ok (.iastore, 1) := by decide +kernel
theorem dX7_windy_72 : decode cX7_windy 72 = .ok (.iload 5, 2) := by decide +kernel
theorem dX7_windy_74 : decode cX7_windy 74 = .ok (.aload_n 0, 1) := by decide +kernel
theorem dX7_windy_75 : decode cX7_windy 75 = .ok (.iload_n 3, 1) := by decide +kernel
theorem dX7_windy_76 : decode cX7_windy 76 = .ok (.aload_n 0, 1) := by decide +kernel
theorem dX7_windy_77 : decode cX7_windy 77 = .ok (.invokevirtual 158, 3) := by decide +kernel
theorem dX7_windy_80 : decode cX7_windy 80 = .ok (.invokevirtual 200, 3) := by decide +kernel
theorem dX7_windy_83 : decode cX7_windy 83 = .ok (.ifCond .eq 10, 3) := by decide +kernel
theorem dX7_windy_86 : decode cX7_windy 86 = .ok (.iconst 1, 1) := by decide +kernel
theorem dX7_windy_87 : decode cX7_windy 87 = .ok (.iload 6, 2) := by decide +kernel
theorem dX7_windy_89 : decode cX7_windy 89 = .ok (.ishl, 1) := by decide +kernel
theorem dX7_windy_90 : decode cX7_windy 90 = .ok (.goto 4, 3) := by decide +kernel
theorem dX7_windy_93 : decode cX7_windy 93 = .ok (.iconst 0, 1) := by decide +kernel
theorem dX7_windy_94 : decode cX7_windy 94 = .ok (.ior, 1) := by decide +kernel
theorem dX7_windy_95 : decode cX7_windy 95 = .ok (.istore 5, 2) := by decide +kernel
theorem dX7_windy_97 : decode cX7_windy 97 = .ok (.iinc 6 1, 3) := by decide +kernel
theorem dX7_windy_100 : decode cX7_windy 100 = .ok (.goto (-47), 3) := by decide +kernel
theorem dX7_windy_103 : decode cX7_windy 103 = .ok (.aload_n 0, 1) := by decide +kernel
theorem dX7_windy_104 : decode cX7_windy 104 = .ok (.iload 5, 2) := by decide +kernel
theorem dX7_windy_106 : decode cX7_windy 106 = .ok (.invokevirtual 74, 3) := by decide +kernel
theorem dX7_windy_109 : decode cX7_windy 109 = .ok (.ireturn, 1) := by decide +kernel
theorem dX7_sorts_0 : decode cX7_sorts 0 = .ok (.aload_n 0, 1) := by decide +kernel
theorem dX7_sorts_1 : decode cX7_sorts 1 = .ok (.iload_n 1, 1) := by decide +kernel
theorem dX7_sorts_2 : decode cX7_sorts 2 = .ok (.invokevirtual 170, 3) := by decide +kernel
theorem dX7_sorts_5 : decode cX7_sorts 5 = .ok (.ifCond .eq 21, 3) := by decide +kernel
theorem dX7_sorts_8 : decode cX7_sorts 8 = .ok (.iload_n 2, 1) := by decide +kernel
theorem dX7_sorts_9 : decode cX7_sorts 9 = .ok (.invokestatic 65, 3) := by decide +kernel
theorem dX7_sorts_12 : decode cX7_sorts 12 = .ok (.ifCond .eq 14, 3) := by decide +kernel
theorem dX7_sorts_15 : decode cX7_sorts 15 = .ok (.iload 4, 2) := by decide +kernel
theorem dX7_sorts_17 : decode cX7_sorts 17 = .ok (.iconst 1, 1) := by decide +kernel
theorem dX7_sorts_18 : decode cX7_sorts 18 = .ok (.bipush 16, 2) := by decide +kernel
theorem dX7_sorts_20 : decode cX7_sorts 20 = .ok (.invokestatic 56, 3) := by decide +kernel
theorem dX7_sorts_23 : decode cX7_sorts 23 = .ok (.ifCond .ne 6, 3) := by decide +kernel
theorem dX7_sorts_26 : decode cX7_sorts 26 = .ok (.ldc 69, 2) := by decide +kernel
theorem dX7_sorts_28 : decode cX7_sorts 28 = .ok (.ireturn, 1) := by decide +kernel
theorem dX7_sorts_29 : decode cX7_sorts 29 = .ok (.aload_n 0, 1) := by decide +kernel
theorem dX7_sorts_30 : decode cX7_sorts 30 = .ok (.iload_n 2, 1) := by decide +kernel
theorem dX7_sorts_31 : decode cX7_sorts 31 = .ok (.iload_n 3, 1) := by decide +kernel
theorem dX7_sorts_32 : decode cX7_sorts 32 = .ok (.iload 4, 2) := by decide +kernel
theorem dX7_sorts_34 : decode cX7_sorts 34 = .ok (.invokevirtual 197, 3) := by decide +kernel
theorem dX7_sorts_37 : decode cX7_sorts 37 = .ok (.istore 5, 2) := by decide +kernel
theorem dX7_sorts_39 : decode cX7_sorts 39 = .ok (.iload 5, 2) := by decide +kernel
theorem dX7_sorts_41 : decode cX7_sorts 41 = .ok (.ifCond .ge 6, 3) := by decide +kernel
theorem dX7_sorts_44 : decode cX7_sorts 44 = .ok (.iload 5, 2) := by decide +kernel
theorem dX7_sorts_46 : decode cX7_sorts 46 = .ok (.ireturn, 1) := by decide +kernel
theorem dX7_sorts_47 : decode cX7_sorts 47 = .ok (.iconst 0, 1) := by decide +kernel
theorem dX7_sorts_48 : decode cX7_sorts 48 = .ok (.istore 6, 2) := by decide +kernel
theorem dX7_sorts_50 : decode cX7_sorts 50 = .ok (.iconst 1, 1) := by decide +kernel
theorem dX7_sorts_51 : decode cX7_sorts 51 = .ok (.istore 7, 2) := by decide +kernel
theorem dX7_sorts_53 : decode cX7_sorts 53 = .ok (.iload 7, 2) := by decide +kernel
theorem dX7_sorts_55 : decode cX7_sorts 55 = .ok (.iconst 5, 1) := by decide +kernel
theorem dX7_sorts_56 : decode cX7_sorts 56 = .ok (.if_icmp .gt 50, 3) := by decide +kernel
theorem dX7_sorts_59 : decode cX7_sorts 59 = .ok (.aload_n 0, 1) := by decide +kernel
theorem dX7_sorts_60 : decode cX7_sorts 60 = .ok (.invokevirtual 176, 3) := by decide +kernel
theorem dX7_sorts_63 : decode cX7_sorts 63 = .ok (.aload_n 0, 1) := by decide +kernel
theorem dX7_sorts_64 : decode cX7_sorts 64 = .ok (.getfield 28, 3) := by decide +kernel
theorem dX7_sorts_67 : decode cX7_sorts 67 = .ok (.bipush 22, 2) := by decide +kernel
theorem dX7_sorts_69 : decode cX7_sorts 69 = .ok (.iload_n 1, 1) := by decide +kernel
theorem dX7_sorts_70 : decode cX7_sorts 70 = .ok (.iadd, 1) := by decide +kernel
theorem dX7_sorts_71 : decode cX7_sorts 71 = .ok (.iload 7, 2) := by decide +kernel
theorem dX7_sorts_73 : decode cX7_sorts 73 = .ok (.iastore, 1) := by decide +kernel
theorem dX7_sorts_74 : decode cX7_sorts 74 = .ok (.iload 6, 2) := by decide +kernel
theorem dX7_sorts_76 : decode cX7_sorts 76 = .ok (.aload_n 0, 1) := by decide +kernel
theorem dX7_sorts_77 : decode cX7_sorts 77 = .ok (.iload 4, 2) := by decide +kernel
theorem dX7_sorts_79 : decode cX7_sorts 79 = .ok (.aload_n 0, 1) := by decide +kernel
theorem dX7_sorts_80 : decode cX7_sorts 80 = .ok (.invokevirtual 158, 3) := by decide +kernel
theorem dX7_sorts_83 : decode cX7_sorts 83 = .ok (.invokevirtual 200, 3) := by decide +kernel
theorem dX7_sorts_86 : decode cX7_sorts 86 = .ok (.ifCond .eq 10, 3) := by decide +kernel
theorem dX7_sorts_89 : decode cX7_sorts 89 = .ok (.iconst 1, 1) := by decide +kernel
theorem dX7_sorts_90 : decode cX7_sorts 90 = .ok (.iload 7, 2) := by decide +kernel
theorem dX7_sorts_92 : decode cX7_sorts 92 = .ok (.ishl, 1) := by decide +kernel
theorem dX7_sorts_93 : decode cX7_sorts 93 = .ok (.goto 4, 3) := by decide +kernel
theorem dX7_sorts_96 : decode cX7_sorts 96 = .ok (.iconst 0, 1) := by decide +kernel
theorem dX7_sorts_97 : decode cX7_sorts 97 = .ok (.ior, 1) := by decide +kernel
theorem dX7_sorts_98 : decode cX7_sorts 98 = .ok (.istore 6, 2) := by decide +kernel
theorem dX7_sorts_100 : decode cX7_sorts 100 = .ok (.iinc 7 1, 3) := by decide +kernel
theorem dX7_sorts_103 : decode cX7_sorts 103 = .ok (.goto (-50), 3) := by decide +kernel
theorem dX7_sorts_106 : decode cX7_sorts 106 = .ok (.aload_n 0, 1) := by decide +kernel
theorem dX7_sorts_107 : decode cX7_sorts 107 = .ok (.iload 6, 2) := by decide +kernel
theorem dX7_sorts_109 : decode cX7_sorts 109 = .ok (.invokevirtual 74, 3) := by decide +kernel
theorem dX7_sorts_112 : decode cX7_sorts 112 = .ok (.ireturn, 1) := by decide +kernel
theorem dX7_stay_0 : decode cX7_stay 0 = .ok (.aload_n 0, 1) := by decide +kernel
theorem dX7_stay_1 : decode cX7_stay 1 = .ok (.iload_n 1, 1) := by decide +kernel
theorem dX7_stay_2 : decode cX7_stay 2 = .ok (.invokevirtual 170, 3) := by decide +kernel
theorem dX7_stay_5 : decode cX7_stay 5 = .ok (.ifCond .eq 33, 3) := by decide +kernel
theorem dX7_stay_8 : decode cX7_stay 8 = .ok (.iload_n 2, 1) := by decide +kernel
theorem dX7_stay_9 : decode cX7_stay 9 = .ok (.iconst 0, 1) := by decide +kernel
theorem dX7_stay_10 : decode cX7_stay 10 = .ok (.bipush 99, 2) := by decide +kernel
theorem dX7_stay_12 : decode cX7_stay 12 = .ok (.invokestatic 56, 3) := by decide +kernel
theorem dX7_stay_15 : decode cX7_stay 15 = .ok (.ifCond .eq 23, 3) := by decide +kernel
theorem dX7_stay_18 : decode cX7_stay 18 = .ok (.iload_n 3, 1) := by decide +kernel
theorem dX7_stay_19 : decode cX7_stay 19 = .ok (.iconst 0, 1) := by decide +kernel
theorem dX7_stay_20 : decode cX7_stay 20 = .ok (.bipush 10, 2) := by decide +kernel
theorem dX7_stay_22 : decode cX7_stay 22 = .ok (.invokestatic 56, 3) := by decide +kernel
theorem dX7_stay_25 : decode cX7_stay 25 = .ok (.ifCond .eq 13, 3) := by decide +kernel
theorem dX7_stay_28 : decode cX7_stay 28 = .ok (.iload 4, 2) := by decide +kernel
theorem dX7_stay_30 : decode cX7_stay 30 = .ok (.iconst 0, 1) := by decide +kernel
theorem dX7_stay_31 : decode cX7_stay 31 = .ok (.iconst 1, 1) := by decide +kernel
theorem dX7_stay_32 : decode cX7_stay 32 = .ok (.invokestatic 56, 3) := by decide +kernel
theorem dX7_stay_35 : decode cX7_stay 35 = .ok (.ifCond .ne 6, 3) := by decide +kernel
theorem dX7_stay_38 : decode cX7_stay 38 = .ok (.ldc 69, 2) := by decide +kernel
theorem dX7_stay_40 : decode cX7_stay 40 = .ok (.ireturn, 1) := by decide +kernel
theorem dX7_stay_41 : decode cX7_stay 41 = .ok (.iconst 0, 1) := by decide +kernel
theorem dX7_stay_42 : decode cX7_stay 42 = .ok (.istore 5, 2) := by decide +kernel
theorem dX7_stay_44 : decode cX7_stay 44 = .ok (.iconst 1, 1) := by decide +kernel
theorem dX7_stay_45 : decode cX7_stay 45 = .ok (.istore 6, 2) := by decide +kernel
theorem dX7_stay_47 : decode cX7_stay 47 = .ok (.iconst 1, 1) := by decide +kernel
theorem dX7_stay_48 : decode cX7_stay 48 = .ok (.istore 7, 2) := by decide +kernel
theorem dX7_stay_50 : decode cX7_stay 50 = .ok (.iload 7, 2) := by decide +kernel
theorem dX7_stay_52 : decode cX7_stay 52 = .ok (.aload_n 0, 1) := by decide +kernel
theorem dX7_stay_53 : decode cX7_stay 53 = .ok (.getfield 22, 3) := by decide +kernel
theorem dX7_stay_56 : decode cX7_stay 56 = .ok (.iconst 2, 1) := by decide +kernel
theorem dX7_stay_57 : decode cX7_stay 57 = .ok (.iaload, 1) := by decide +kernel
theorem dX7_stay_58 : decode cX7_stay 58 = .ok (.if_icmp .ge 16, 3) := by decide +kernel
theorem dX7_stay_61 : decode cX7_stay 61 = .ok (.iload 6, 2) := by decide +kernel
theorem dX7_stay_63 : decode cX7_stay 63 = .ok (.bipush 10, 2) := by decide +kernel
theorem dX7_stay_65 : decode cX7_stay 65 = .ok (.imul, 1) := by decide +kernel
theorem dX7_stay_66 : decode cX7_stay 66 = .ok (.istore 6, 2) := by decide +kernel
theorem dX7_stay_68 : decode cX7_stay 68 = .ok (.iinc 7 1, 3) := by decide +kernel
theorem dX7_stay_71 : decode cX7_stay 71 = .ok (.goto (-21), 3) := by decide +kernel
theorem dX7_stay_74 : decode cX7_stay 74 = .ok (.iconst 1, 1) := by decide +kernel
theorem dX7_stay_75 : decode cX7_stay 75 = .ok (.istore 7, 2) := by decide +kernel
theorem dX7_stay_77 : decode cX7_stay 77 = .ok (.iload 7, 2) := by decide +kernel
theorem dX7_stay_79 : decode cX7_stay 79 = .ok (.aload_n 0, 1) := by decide +kernel
theorem dX7_stay_80 : decode cX7_stay 80 = .ok (.invokevirtual 158, 3) := by decide +kernel
theorem dX7_stay_83 : decode cX7_stay 83 = .ok (.if_icmp .gt 128, 3) := by decide +kernel
theorem dX7_stay_86 : decode cX7_stay 86 = .ok (.iload 7, 2) := by decide +kernel
theorem dX7_stay_88 : decode cX7_stay 88 = .ok (.aload_n 0, 1) := by decide +kernel
theorem dX7_stay_89 : decode cX7_stay 89 = .ok (.getfield 22, 3) := by decide +kernel
theorem dX7_stay_92 : decode cX7_stay 92 = .ok (.iconst 4, 1) := by decide +kernel
theorem dX7_stay_93 : decode cX7_stay 93 = .ok (.iaload, 1) := by decide +kernel
theorem dX7_stay_94 : decode cX7_stay 94 = .ok (.invokestatic 140, 3) := by decide +kernel
theorem dX7_stay_97 : decode cX7_stay 97 = .ok (.ifCond .eq 108, 3) := by decide +kernel
theorem dX7_stay_100 : decode cX7_stay 100 = .ok (.iconst 1, 1) := by decide +kernel
theorem dX7_stay_101 : decode cX7_stay 101 = .ok (.istore 8, 2) := by decide +kernel
theorem dX7_stay_103 : decode cX7_stay 103 = .ok (.iconst 1, 1) := by decide +kernel
theorem dX7_stay_104 : decode cX7_stay 104 = .ok (.istore 9, 2) := by decide +kernel
theorem dX7_stay_106 : decode cX7_stay 106 = .ok (.iload 9, 2) := by decide +kernel
theorem dX7_stay_108 : decode cX7_stay 108 = .ok (.aload_n 0, 1) := by decide +kernel
theorem dX7_stay_109 : decode cX7_stay 109 = .ok (.getfield 22, 3) := by decide +kernel
theorem dX7_stay_112 : decode cX7_stay 112 = .ok (.iconst 2, 1) := by decide +kernel
theorem dX7_stay_113 : decode cX7_stay 113 = .ok (.iaload, 1) := by decide +kernel
theorem dX7_stay_114 : decode cX7_stay 114 = .ok (.if_icmp .ge 39, 3) := by decide +kernel
theorem dX7_stay_117 : decode cX7_stay 117 = .ok (.iload 8, 2) := by decide +kernel
theorem dX7_stay_119 : decode cX7_stay 119 = .ok (.iload 7, 2) := by decide +kernel
theorem dX7_stay_121 : decode cX7_stay 121 = .ok (.aload_n 0, 1) := by decide +kernel
theorem dX7_stay_122 : decode cX7_stay 122 = .ok (.getfield 22, 3) := by decide +kernel
theorem dX7_stay_125 : decode cX7_stay 125 = .ok (.iconst 4, 1) := by decide +kernel
theorem dX7_stay_126 : decode cX7_stay 126 = .ok (.iload 9, 2) := by decide +kernel
theorem dX7_stay_128 : decode cX7_stay 128 = .ok (.iadd, 1) := by decide +kernel
theorem dX7_stay_129 : decode cX7_stay 129 = .ok (.iaload, 1) := by decide +kernel
theorem dX7_stay_130 : decode cX7_stay 130 = .ok (.invokestatic 140, 3) := by decide +kernel
theorem dX7_stay_133 : decode cX7_stay 133 = .ok (.ifCond .eq 10, 3) := by decide +kernel
theorem dX7_stay_136 : decode cX7_stay 136 = .ok (.bipush 10, 2) := by decide +kernel
theorem dX7_stay_138 : decode cX7_stay 138 = .ok (.iload_n 3, 1) := by decide +kernel
theorem dX7_stay_139 : decode cX7_stay 139 = .ok (.isub, 1) := by decide +kernel
theorem dX7_stay_140 : decode cX7_stay 140 = .ok (.goto 4, 3) := by decide +kernel
theorem dX7_stay_143 : decode cX7_stay 143 = .ok (.iload_n 3, 1) := by decide +kernel
theorem dX7_stay_144 : decode cX7_stay 144 = .ok (.imul, 1) := by decide +kernel
theorem dX7_stay_145 : decode cX7_stay 145 = .ok (.istore 8, 2) := by decide +kernel
theorem dX7_stay_147 : decode cX7_stay 147 = .ok (.iinc 9 1, 3) := by decide +kernel
theorem dX7_stay_150 : decode cX7_stay 150 = .ok (.goto (-44), 3) := by decide +kernel
theorem dX7_stay_153 : decode cX7_stay 153 = .ok (.aload_n 0, 1) := by decide +kernel
theorem dX7_stay_154 : decode cX7_stay 154 = .ok (.invokevirtual 176, 3) := by decide +kernel
theorem dX7_stay_157 : decode cX7_stay 157 = .ok (.iconst 0, 1) := by decide +kernel
theorem dX7_stay_158 : decode cX7_stay 158 = .ok (.istore 9, 2) := by decide +kernel
theorem dX7_stay_160 : decode cX7_stay 160 = .ok (.iload 9, 2) := by decide +kernel
theorem dX7_stay_162 : decode cX7_stay 162 = .ok (.iload_n 2, 1) := by decide +kernel
theorem dX7_stay_163 : decode cX7_stay 163 = .ok (.if_icmp .ge 18, 3) := by decide +kernel
theorem dX7_stay_166 : decode cX7_stay 166 = .ok (.aload_n 0, 1) := by decide +kernel
theorem dX7_stay_167 : decode cX7_stay 167 = .ok (.getfield 28, 3) := by decide +kernel
theorem dX7_stay_170 : decode cX7_stay 170 = .ok (.iload 7, 2) := by decide +kernel
theorem dX7_stay_172 : decode cX7_stay 172 = .ok (.invokestatic 162, 3) := by decide +kernel
theorem dX7_stay_175 : decode cX7_stay 175 = .ok (.iinc 9 1, 3) := by decide +kernel
theorem dX7_stay_178 : decode cX7_stay 178 = .ok (.goto (-18), 3) := by decide +kernel
theorem dX7_stay_181 : decode cX7_stay 181 = .ok (.iload 5, 2) := by decide +kernel
theorem dX7_stay_183 : decode cX7_stay 183 = .ok (.aload_n 0, 1) := by decide +kernel
theorem dX7_stay_184 : decode cX7_stay 184 = .ok (.getfield 28, 3) := by decide +kernel
theorem dX7_stay_187 : decode cX7_stay 187 = .ok (.bipush 42, 2) := by decide +kernel
theorem dX7_stay_189 : decode cX7_stay 189 = .ok (.iload_n 1, 1) := by decide +kernel
theorem dX7_stay_190 : decode cX7_stay 190 = .ok (.iadd, 1) := by decide +kernel
theorem dX7_stay_191 : decode cX7_stay 191 = .ok (.iaload, 1) := by decide +kernel
theorem dX7_stay_192 : decode cX7_stay 192 = .ok (.iconst 1, 1) := by decide +kernel
theorem dX7_stay_193 : decode cX7_stay 193 = .ok (.if_icmp .ne 8, 3) := by decide +kernel
theorem dX7_stay_196 : decode cX7_stay 196 = .ok (.iload 8, 2) := by decide +kernel
theorem dX7_stay_198 : decode cX7_stay 198 = .ok (.goto 4, 3) := by decide +kernel
theorem dX7_stay_201 : decode cX7_stay 201 = .ok (.iconst 0, 1) := by decide +kernel
theorem dX7_stay_202 : decode cX7_stay 202 = .ok (.iadd, 1) := by decide +kernel
theorem dX7_stay_203 : decode cX7_stay 203 = .ok (.istore 5, 2) := by decide +kernel
theorem dX7_stay_205 : decode cX7_stay 205 = .ok (.iinc 7 1, 3) := by decide +kernel
theorem dX7_stay_208 : decode cX7_stay 208 = .ok (.goto (-131), 3) := by decide +kernel
theorem dX7_stay_211 : decode cX7_stay 211 = .ok (.iload 5, 2) := by decide +kernel
theorem dX7_stay_213 : decode cX7_stay 213 = .ok (.istore 7, 2) := by decide +kernel
theorem dX7_stay_215 : decode cX7_stay 215 = .ok (.iload 6, 2) := by decide +kernel
theorem dX7_stay_217 : decode cX7_stay 217 = .ok (.istore 8, 2) := by decide +kernel
theorem dX7_stay_219 : decode cX7_stay 219 = .ok (.iload 8, 2) := by decide +kernel
theorem dX7_stay_221 : decode cX7_stay 221 = .ok (.ifCond .le 21, 3) := by decide +kernel
theorem dX7_stay_224 : decode cX7_stay 224 = .ok (.iload 7, 2) := by decide +kernel
theorem dX7_stay_226 : decode cX7_stay 226 = .ok (.iload 8, 2) := by decide +kernel
theorem dX7_stay_228 : decode cX7_stay 228 = .ok (.irem, 1) := by decide +kernel
theorem dX7_stay_229 : decode cX7_stay 229 = .ok (.istore 9, 2) := by decide +kernel
theorem dX7_stay_231 : decode cX7_stay 231 = .ok (.iload 8, 2) := by decide +kernel
theorem dX7_stay_233 : decode cX7_stay 233 = .ok (.istore 7, 2) := by decide +kernel
theorem dX7_stay_235 : decode cX7_stay 235 = .ok (.iload 9, 2) := by decide +kernel
theorem dX7_stay_237 : decode cX7_stay 237 = .ok (.istore 8, 2) := by decide +kernel
theorem dX7_stay_239 : decode cX7_stay 239 = .ok (.goto (-20), 3) := by decide +kernel
theorem dX7_stay_242 : decode cX7_stay 242 = .ok (.iload 4, 2) := by decide +kernel
theorem dX7_stay_244 : decode cX7_stay 244 = .ok (.ifCond .ne 8, 3) := by decide +kernel
theorem dX7_stay_247 : decode cX7_stay 247 = .ok (.iload 5, 2) := by decide +kernel
theorem dX7_stay_249 : decode cX7_stay 249 = .ok (.goto 5, 3) := by decide +kernel
theorem dX7_stay_252 : decode cX7_stay 252 = .ok (.iload 6, 2) := by decide +kernel
theorem dX7_stay_254 : decode cX7_stay 254 = .ok (.iload 7, 2) := by decide +kernel
theorem dX7_stay_256 : decode cX7_stay 256 = .ok (.idiv, 1) := by decide +kernel
theorem dX7_stay_257 : decode cX7_stay 257 = .ok (.ireturn, 1) := by decide +kernel
theorem dX7_image_0 : decode cX7_image 0 = .ok (.iload_n 1, 1) := by decide +kernel
theorem dX7_image_1 : decode cX7_image 1 = .ok (.iconst 0, 1) := by decide +kernel
theorem dX7_image_2 : decode cX7_image 2 = .ok (.iconst 1, 1) := by decide +kernel
theorem dX7_image_3 : decode cX7_image 3 = .ok (.invokestatic 56, 3) := by decide +kernel
theorem dX7_image_6 : decode cX7_image 6 = .ok (.ifCond .ne 6, 3) := by decide +kernel
theorem dX7_image_9 : decode cX7_image 9 = .ok (.ldc 69, 2) := by decide +kernel
theorem dX7_image_11 : decode cX7_image 11 = .ok (.ireturn, 1) := by decide +kernel
theorem dX7_image_12 : decode cX7_image 12 = .ok (.aload_n 0, 1) := by decide +kernel
theorem dX7_image_13 : decode cX7_image 13 = .ok (.invokevirtual 151, 3) := by decide +kernel
theorem dX7_image_16 : decode cX7_image 16 = .ok (.ifCond .ne 6, 3) := by decide +kernel
theorem dX7_image_19 : decode cX7_image 19 = .ok (.ldc 154, 2) := by decide +kernel
theorem dX7_image_21 : decode cX7_image 21 = .ok (.ireturn, 1) := by decide +kernel
theorem dX7_image_22 : decode cX7_image 22 = .ok (.aload_n 0, 1) := by decide +kernel
theorem dX7_image_23 : decode cX7_image 23 = .ok (.getfield 22, 3) := by decide +kernel
theorem dX7_image_26 : decode cX7_image 26 = .ok (.iconst 0, 1) := by decide +kernel
theorem dX7_image_27 : decode cX7_image 27 = .ok (.aload_n 0, 1) := by decide +kernel
theorem dX7_image_28 : decode cX7_image 28 = .ok (.getfield 31, 3) := by decide +kernel
theorem dX7_image_31 : decode cX7_image 31 = .ok (.bipush 47, 2) := by decide +kernel
theorem dX7_image_33 : decode cX7_image 33 = .ok (.iload_n 1, 1) := by decide +kernel
theorem dX7_image_34 : decode cX7_image 34 = .ok (.imul, 1) := by decide +kernel
theorem dX7_image_35 : decode cX7_image 35 = .ok (.invokestatic 130, 3) := by decide +kernel
theorem dX7_image_38 : decode cX7_image 38 = .ok (.aload_n 0, 1) := by decide +kernel
theorem dX7_image_39 : decode cX7_image 39 = .ok (.getfield 34, 3) := by decide +kernel
theorem dX7_image_42 : decode cX7_image 42 = .ok (.iload_n 1, 1) := by decide +kernel
theorem dX7_image_43 : decode cX7_image 43 = .ok (.iconst 1, 1) := by decide +kernel
theorem dX7_image_44 : decode cX7_image 44 = .ok (.bastore, 1) := by decide +kernel
theorem dX7_image_45 : decode cX7_image 45 = .ok (.iconst 1, 1) := by decide +kernel
theorem dX7_image_46 : decode cX7_image 46 = .ok (.ireturn, 1) := by decide +kernel
theorem dX7_restore_0 : decode cX7_restore 0 = .ok (.iload_n 1, 1) := by decide +kernel
theorem dX7_restore_1 : decode cX7_restore 1 = .ok (.iconst 0, 1) := by decide +kernel
theorem dX7_restore_2 : decode cX7_restore 2 = .ok (.iconst 1, 1) := by decide +kernel
theorem dX7_restore_3 : decode cX7_restore 3 = .ok (.invokestatic 56, 3) := by decide +kernel
theorem dX7_restore_6 : decode cX7_restore 6 = .ok (.ifCond .ne 6, 3) := by decide +kernel
theorem dX7_restore_9 : decode cX7_restore 9 = .ok (.ldc 69, 2) := by decide +kernel
theorem dX7_restore_11 : decode cX7_restore 11 = .ok (.ireturn, 1) := by decide +kernel
theorem dX7_restore_12 : decode cX7_restore 12 = .ok (.aload_n 0, 1) := by decide +kernel
theorem dX7_restore_13 : decode cX7_restore 13 = .ok (.getfield 34, 3) := by decide +kernel
theorem dX7_restore_16 : decode cX7_restore 16 = .ok (.iload_n 1, 1) := by decide +kernel
theorem dX7_restore_17 : decode cX7_restore 17 = .ok (.baload, 1) := by decide +kernel
theorem dX7_restore_18 : decode cX7_restore 18 = .ok (.ifCond .ne 6, 3) := by decide +kernel
theorem dX7_restore_21 : decode cX7_restore 21 = .ok (.ldc 154, 2) := by decide +kernel
theorem dX7_restore_23 : decode cX7_restore 23 = .ok (.ireturn, 1) := by decide +kernel
theorem dX7_restore_24 : decode cX7_restore 24 = .ok (.aload_n 0, 1) := by decide +kernel
theorem dX7_restore_25 : decode cX7_restore 25 = .ok (.getfield 31, 3) := by decide +kernel
theorem dX7_restore_28 : decode cX7_restore 28 = .ok (.bipush 47, 2) := by decide +kernel
theorem dX7_restore_30 : decode cX7_restore 30 = .ok (.iload_n 1, 1) := by decide +kernel
theorem dX7_restore_31 : decode cX7_restore 31 = .ok (.imul, 1) := by decide +kernel
theorem dX7_restore_32 : decode cX7_restore 32 = .ok (.aload_n 0, 1) := by decide +kernel
theorem dX7_restore_33 : decode cX7_restore 33 = .ok (.getfield 22, 3) := by decide +kernel
theorem dX7_restore_36 : decode cX7_restore 36 = .ok (.iconst 0, 1) := by decide +kernel
theorem dX7_restore_37 : decode cX7_restore 37 = .ok (.invokestatic 130, 3) := by decide +kernel
theorem dX7_restore_40 : decode cX7_restore 40 = .ok (.aload_n 0, 1) := by decide +kernel
theorem dX7_restore_41 : decode cX7_restore 41 = .ok (.iconst 0, 1) := by decide +kernel
theorem dX7_restore_42 : decode cX7_restore 42 = .ok (.putfield 134, 3) := by decide +kernel
theorem dX7_restore_45 : decode cX7_restore 45 = .ok (.iconst 1, 1) := by decide +kernel
theorem dX7_restore_46 : decode cX7_restore 46 = .ok (.ireturn, 1) := by decide +kernel
theorem dX7_kind_0 : decode cX7_kind 0 = .ok (.aload_n 0, 1) := by decide +kernel
theorem dX7_kind_1 : decode cX7_kind 1 = .ok (.iload_n 1, 1) := by decide +kernel
theorem dX7_kind_2 : decode cX7_kind 2 = .ok (.invokevirtual 170, 3) := by decide +kernel
theorem dX7_kind_5 : decode cX7_kind 5 = .ok (.ifCond .eq 15, 3) := by decide +kernel
theorem dX7_kind_8 : decode cX7_kind 8 = .ok (.aload_n 0, 1) := by decide +kernel
theorem dX7_kind_9 : decode cX7_kind 9 = .ok (.getfield 22, 3) := by decide +kernel
theorem dX7_kind_12 : decode cX7_kind 12 = .ok (.bipush 22, 2) := by decide +kernel
theorem dX7_kind_14 : decode cX7_kind 14 = .ok (.iload_n 1, 1) := by decide +kernel
theorem dX7_kind_15 : decode cX7_kind 15 = .ok (.iadd, 1) := by decide +kernel
theorem dX7_kind_16 : decode cX7_kind 16 = .ok (.iaload, 1) := by decide +kernel
theorem dX7_kind_17 : decode cX7_kind 17 = .ok (.goto 5, 3) := by decide +kernel
theorem dX7_kind_20 : decode cX7_kind 20 = .ok (.ldc 69, 2) := by decide +kernel
theorem dX7_kind_22 : decode cX7_kind 22 = .ok (.ireturn, 1) := by decide +kernel
theorem dX7_parentOf_0 : decode cX7_parentOf 0 = .ok (.iload_n 0, 1) := by decide +kernel
theorem dX7_parentOf_1 : decode cX7_parentOf 1 = .ok (.iconst 1, 1) := by decide +kernel
theorem dX7_parentOf_2 : decode cX7_parentOf 2 = .ok (.if_icmp .eq 8, 3) := by decide +kernel
theorem dX7_parentOf_5 : decode cX7_parentOf 5 = .ok (.iload_n 0, 1) := by decide +kernel
theorem dX7_parentOf_6 : decode cX7_parentOf 6 = .ok (.iconst 4, 1) := by decide +kernel
theorem dX7_parentOf_7 : decode cX7_parentOf 7 = .ok (.if_icmp .ne 7, 3) := by decide +kernel
theorem dX7_parentOf_10 : decode cX7_parentOf 10 = .ok (.iconst 0, 1) := by decide +kernel
theorem dX7_parentOf_11 : decode cX7_parentOf 11 = .ok (.goto 13, 3) := by decide +kernel
theorem dX7_parentOf_14 : decode cX7_parentOf 14 = .ok (.iload_n 0, 1) := by decide +kernel
theorem dX7_parentOf_15 : decode cX7_parentOf 15 = .ok (.iconst 5, 1) := by decide +kernel
theorem dX7_parentOf_16 : decode cX7_parentOf 16 = .ok (.if_icmp .ne 7, 3) := by decide +kernel
theorem dX7_parentOf_19 : decode cX7_parentOf 19 = .ok (.iconst 4, 1) := by decide +kernel
theorem dX7_parentOf_20 : decode cX7_parentOf 20 = .ok (.goto 4, 3) := by decide +kernel
theorem dX7_parentOf_23 : decode cX7_parentOf 23 = .ok (.iconst 1, 1) := by decide +kernel
theorem dX7_parentOf_24 : decode cX7_parentOf 24 = .ok (.ireturn, 1) := by decide +kernel
theorem dX7_as_0 : decode cX7_as 0 = .ok (.aload_n 0, 1) := by decide +kernel
theorem dX7_as_1 : decode cX7_as 1 = .ok (.iload_n 1, 1) := by decide +kernel
theorem dX7_as_2 : decode cX7_as 2 = .ok (.invokevirtual 170, 3) := by decide +kernel
theorem dX7_as_5 : decode cX7_as 5 = .ok (.ifCond .eq 12, 3) := by decide +kernel
theorem dX7_as_8 : decode cX7_as 8 = .ok (.iload_n 2, 1) := by decide +kernel
theorem dX7_as_9 : decode cX7_as 9 = .ok (.iconst 0, 1) := by decide +kernel
theorem dX7_as_10 : decode cX7_as 10 = .ok (.iconst 5, 1) := by decide +kernel
theorem dX7_as_11 : decode cX7_as 11 = .ok (.invokestatic 56, 3) := by decide +kernel
theorem dX7_as_14 : decode cX7_as 14 = .ok (.ifCond .ne 6, 3) := by decide +kernel
theorem dX7_as_17 : decode cX7_as 17 = .ok (.ldc 69, 2) := by decide +kernel
theorem dX7_as_19 : decode cX7_as 19 = .ok (.ireturn, 1) := by decide +kernel
theorem dX7_as_20 : decode cX7_as 20 = .ok (.aload_n 0, 1) := by decide +kernel
theorem dX7_as_21 : decode cX7_as 21 = .ok (.getfield 22, 3) := by decide +kernel
theorem dX7_as_24 : decode cX7_as 24 = .ok (.bipush 22, 2) := by decide +kernel
theorem dX7_as_26 : decode cX7_as 26 = .ok (.iload_n 1, 1) := by decide +kernel
theorem dX7_as_27 : decode cX7_as 27 = .ok (.iadd, 1) := by decide +kernel
theorem dX7_as_28 : decode cX7_as 28 = .ok (.iaload, 1) := by decide +kernel
theorem dX7_as_29 : decode cX7_as 29 = .ok (.istore_n 3, 1) := by decide +kernel
theorem dX7_as_30 : decode cX7_as 30 = .ok (.iload_n 2, 1) := by decide +kernel
theorem dX7_as_31 : decode cX7_as 31 = .ok (.ifCond .eq 16, 3) := by decide +kernel
theorem dX7_as_34 : decode cX7_as 34 = .ok (.iload_n 3, 1) := by decide +kernel
theorem dX7_as_35 : decode cX7_as 35 = .ok (.iload_n 2, 1) := by decide +kernel
theorem dX7_as_36 : decode cX7_as 36 = .ok (.if_icmp .eq 11, 3) := by decide +kernel
theorem dX7_as_39 : decode cX7_as 39 = .ok (.iload_n 3, 1) := by decide +kernel
theorem dX7_as_40 : decode cX7_as 40 = .ok (.invokestatic 203, 3) := by decide +kernel
theorem dX7_as_43 : decode cX7_as 43 = .ok (.iload_n 2, 1) := by decide +kernel
theorem dX7_as_44 : decode cX7_as 44 = .ok (.if_icmp .ne 7, 3) := by decide +kernel
theorem dX7_as_47 : decode cX7_as 47 = .ok (.iconst 1, 1) := by decide +kernel
theorem dX7_as_48 : decode cX7_as 48 = .ok (.goto 4, 3) := by decide +kernel
theorem dX7_as_51 : decode cX7_as 51 = .ok (.iconst 0, 1) := by decide +kernel
theorem dX7_as_52 : decode cX7_as 52 = .ok (.istore 4, 2) := by decide +kernel
theorem dX7_as_54 : decode cX7_as 54 = .ok (.iload 4, 2) := by decide +kernel
theorem dX7_as_56 : decode cX7_as 56 = .ok (.ifCond .eq 11, 3) := by decide +kernel
theorem dX7_as_59 : decode cX7_as 59 = .ok (.aload_n 0, 1) := by decide +kernel
theorem dX7_as_60 : decode cX7_as 60 = .ok (.iload_n 1, 1) := by decide +kernel
theorem dX7_as_61 : decode cX7_as 61 = .ok (.invokevirtual 74, 3) := by decide +kernel
theorem dX7_as_64 : decode cX7_as 64 = .ok (.goto 8, 3) := by decide +kernel
theorem dX7_as_67 : decode cX7_as 67 = .ok (.aload_n 0, 1) := by decide +kernel
theorem dX7_as_68 : decode cX7_as 68 = .ok (.iconst 3, 1) := by decide +kernel
theorem dX7_as_69 : decode cX7_as 69 = .ok (.invokevirtual 70, 3) := by decide +kernel
theorem dX7_as_72 : decode cX7_as 72 = .ok (.ireturn, 1) := by decide +kernel
theorem dX7_begins_0 : decode cX7_begins 0 = .ok (.aload_n 0, 1) := by decide +kernel
theorem dX7_begins_1 : decode cX7_begins 1 = .ok (.getfield 206, 3) := by decide +kernel
theorem dX7_begins_4 : decode cX7_begins 4 = .ok (.bipush 16, 2) := by decide +kernel
theorem dX7_begins_6 : decode cX7_begins 6 = .ok (.if_icmp .ge 23, 3) := by decide +kernel
theorem dX7_begins_9 : decode cX7_begins 9 = .ok (.aload_n 0, 1) := by decide +kernel
theorem dX7_begins_10 : decode cX7_begins 10 = .ok (.getfield 41, 3) := by decide +kernel
theorem dX7_begins_13 : decode cX7_begins 13 = .ok (.aload_n 0, 1) := by decide +kernel
theorem dX7_begins_14 : decode cX7_begins 14 = .ok (.getfield 206, 3) := by decide +kernel
theorem dX7_begins_17 : decode cX7_begins 17 = .ok (.iload_n 1, 1) := by decide +kernel
theorem dX7_begins_18 : decode cX7_begins 18 = .ok (.iastore, 1) := by decide +kernel
theorem dX7_begins_19 : decode cX7_begins 19 = .ok (.aload_n 0, 1) := by decide +kernel
theorem dX7_begins_20 : decode cX7_begins 20 = .ok (.dup, 1) := by decide +kernel
theorem dX7_begins_21 : decode cX7_begins 21 = .ok (.getfield 206, 3) := by decide +kernel
theorem dX7_begins_24 : decode cX7_begins 24 = .ok (.iconst 1, 1) := by decide +kernel
theorem dX7_begins_25 : decode cX7_begins 25 = .ok (.iadd, 1) := by decide +kernel
theorem dX7_begins_26 : decode cX7_begins 26 = .ok (.putfield 206, 3) := by decide +kernel
theorem dX7_begins_29 : decode cX7_begins 29 = .ok (.return_, 1) := by decide +kernel
theorem dX7_markPlain_0 : decode cX7_markPlain 0 = .ok (.aload_n 0, 1) := by decide +kernel
theorem dX7_markPlain_1 : decode cX7_markPlain 1 = .ok (.bipush 21, 2) := by decide +kernel
theorem dX7_markPlain_3 : decode cX7_markPlain 3 = .ok (.invokevirtual 209, 3) := by decide +kernel
theorem dX7_markPlain_6 : decode cX7_markPlain 6 = .ok (.aload_n 0, 1) := by decide +kernel
theorem dX7_markPlain_7 : decode cX7_markPlain 7 = .ok (.bipush 20, 2) := by decide +kernel
theorem dX7_markPlain_9 : decode cX7_markPlain 9 = .ok (.invokevirtual 209, 3) := by decide +kernel
theorem dX7_markPlain_12 : decode cX7_markPlain 12 = .ok (.iload_n 1, 1) := by decide +kernel
theorem dX7_markPlain_13 : decode cX7_markPlain 13 = .ok (.aload_n 0, 1) := by decide +kernel
theorem dX7_markPlain_14 : decode cX7_markPlain 14 = .ok (.getfield 22, 3) := by decide +kernel
theorem dX7_markPlain_17 : decode cX7_markPlain 17 = .ok (.bipush 37, 2) := by decide +kernel
theorem dX7_markPlain_19 : decode cX7_markPlain 19 = .ok (.iload_n 1, 1) := by decide +kernel
theorem dX7_markPlain_20 : decode cX7_markPlain 20 = .ok (.iadd, 1) := by decide +kernel
theorem dX7_markPlain_21 : decode cX7_markPlain 21 = .ok (.iaload, 1) := by decide +kernel
theorem dX7_markPlain_22 : decode cX7_markPlain 22 = .ok (.iadd, 1) := by decide +kernel
theorem dX7_markPlain_23 : decode cX7_markPlain 23 = .ok (.ireturn, 1) := by decide +kernel
theorem dX7_markWarm_0 : decode cX7_markWarm 0 = .ok (.aload_n 0, 1) := by decide +kernel
theorem dX7_markWarm_1 : decode cX7_markWarm 1 = .ok (.getfield 22, 3) := by decide +kernel
theorem dX7_markWarm_4 : decode cX7_markWarm 4 = .ok (.bipush 22, 2) := by decide +kernel
theorem dX7_markWarm_6 : decode cX7_markWarm 6 = .ok (.iload_n 1, 1) := by decide +kernel
theorem dX7_markWarm_7 : decode cX7_markWarm 7 = .ok (.iadd, 1) := by decide +kernel
theorem dX7_markWarm_8 : decode cX7_markWarm 8 = .ok (.iaload, 1) := by decide +kernel
theorem dX7_markWarm_9 : decode cX7_markWarm 9 = .ok (.istore_n 2, 1) := by decide +kernel
theorem dX7_markWarm_10 : decode cX7_markWarm 10 = .ok (.iload_n 2, 1) := by decide +kernel
theorem dX7_markWarm_11 : decode cX7_markWarm 11 = .ok (.iconst 2, 1) := by decide +kernel
theorem dX7_markWarm_12 : decode cX7_markWarm 12 = .ok (.if_icmp .ne 17, 3) := by decide +kernel
theorem dX7_markWarm_15 : decode cX7_markWarm 15 = .ok (.aload_n 0, 1) := by decide +kernel
theorem dX7_markWarm_16 : decode cX7_markWarm 16 = .ok (.bipush 24, 2) := by decide +kernel
theorem dX7_markWarm_18 : decode cX7_markWarm 18 = .ok (.invokevirtual 209, 3) := by decide +kernel
theorem dX7_markWarm_21 : decode cX7_markWarm 21 = .ok (.iconst 2, 1) := by decide +kernel
theorem dX7_markWarm_22 : decode cX7_markWarm 22 = .ok (.aload_n 0, 1) := by decide +kernel
theorem dX7_markWarm_23 : decode cX7_markWarm 23 = .ok (.iload_n 1, 1) := by decide +kernel
theorem dX7_markWarm_24 : decode cX7_markWarm 24 = .ok (.invokevirtual 212, 3) := by decide +kernel
theorem dX7_markWarm_27 : decode cX7_markWarm 27 = .ok (.imul, 1) := by decide +kernel
theorem dX7_markWarm_28 : decode cX7_markWarm 28 = .ok (.ireturn, 1) := by decide +kernel
theorem dX7_markWarm_29 : decode cX7_markWarm 29 = .ok (.iload_n 2, 1) := by decide +kernel
theorem dX7_markWarm_30 : decode cX7_markWarm 30 = .ok (.iconst 3, 1) := by decide +kernel
theorem dX7_markWarm_31 : decode cX7_markWarm 31 = .ok (.if_icmp .ne 19, 3) := by decide +kernel
theorem dX7_markWarm_34 : decode cX7_markWarm 34 = .ok (.aload_n 0, 1) := by decide +kernel
theorem dX7_markWarm_35 : decode cX7_markWarm 35 = .ok (.bipush 22, 2) := by decide +kernel
theorem dX7_markWarm_37 : decode cX7_markWarm 37 = .ok (.invokevirtual 209, 3) := by decide +kernel
theorem dX7_markWarm_40 : decode cX7_markWarm 40 = .ok (.aload_n 0, 1) := by decide +kernel
theorem dX7_markWarm_41 : decode cX7_markWarm 41 = .ok (.iload_n 1, 1) := by decide +kernel
theorem dX7_markWarm_42 : decode cX7_markWarm 42 = .ok (.invokevirtual 212, 3) := by decide +kernel
theorem dX7_markWarm_45 : decode cX7_markWarm 45 = .ok (.sipush 1000, 3) := by decide +kernel
theorem dX7_markWarm_48 : decode cX7_markWarm 48 = .ok (.isub, 1) := by decide +kernel
theorem dX7_markWarm_49 : decode cX7_markWarm 49 = .ok (.ireturn, 1) := by decide +kernel
theorem dX7_markWarm_50 : decode cX7_markWarm 50 = .ok (.aload_n 0, 1) := by decide +kernel
theorem dX7_markWarm_51 : decode cX7_markWarm 51 = .ok (.iload_n 1, 1) := by decide +kernel
theorem dX7_markWarm_52 : decode cX7_markWarm 52 = .ok (.invokevirtual 212, 3) := by decide +kernel
theorem dX7_markWarm_55 : decode cX7_markWarm 55 = .ok (.ireturn, 1) := by decide +kernel
theorem dX7_sizeNervous_0 : decode cX7_sizeNervous 0 = .ok (.aload_n 0, 1) := by decide +kernel
theorem dX7_sizeNervous_1 : decode cX7_sizeNervous 1 = .ok (.bipush 13, 2) := by decide +kernel
theorem dX7_sizeNervous_3 : decode cX7_sizeNervous 3 = .ok (.invokevirtual 209, 3) := by decide +kernel
theorem dX7_sizeNervous_6 : decode cX7_sizeNervous 6 = .ok (.aload_n 0, 1) := by decide +kernel
theorem dX7_sizeNervous_7 : decode cX7_sizeNervous 7 = .ok (.bipush 10, 2) := by decide +kernel
theorem dX7_sizeNervous_9 : decode cX7_sizeNervous 9 = .ok (.invokevirtual 209, 3) := by decide +kernel
theorem dX7_sizeNervous_12 : decode cX7_sizeNervous 12 = .ok (.aload_n 0, 1) := by decide +kernel
theorem dX7_sizeNervous_13 : decode cX7_sizeNervous 13 = .ok (.getfield 22, 3) := by decide +kernel
theorem dX7_sizeNervous_16 : decode cX7_sizeNervous 16 = .ok (.bipush 27, 2) := by decide +kernel
theorem dX7_sizeNervous_18 : decode cX7_sizeNervous 18 = .ok (.iload_n 1, 1) := by decide +kernel
theorem dX7_sizeNervous_19 : decode cX7_sizeNervous 19 = .ok (.iadd, 1) := by decide +kernel
theorem dX7_sizeNervous_20 : decode cX7_sizeNervous 20 = .ok (.iaload, 1) := by decide +kernel
theorem dX7_sizeNervous_21 : decode cX7_sizeNervous 21 = .ok (.bipush 100, 2) := by decide +kernel
theorem dX7_sizeNervous_23 : decode cX7_sizeNervous 23 = .ok (.isub, 1) := by decide +kernel
theorem dX7_sizeNervous_24 : decode cX7_sizeNervous 24 = .ok (.ireturn, 1) := by decide +kernel
theorem dX7_sizeOf_0 : decode cX7_sizeOf 0 = .ok (.aload_n 0, 1) := by decide +kernel
theorem dX7_sizeOf_1 : decode cX7_sizeOf 1 = .ok (.getfield 22, 3) := by decide +kernel
theorem dX7_sizeOf_4 : decode cX7_sizeOf 4 = .ok (.bipush 22, 2) := by decide +kernel
theorem dX7_sizeOf_6 : decode cX7_sizeOf 6 = .ok (.iload_n 1, 1) := by decide +kernel
theorem dX7_sizeOf_7 : decode cX7_sizeOf 7 = .ok (.iadd, 1) := by decide +kernel
theorem dX7_sizeOf_8 : decode cX7_sizeOf 8 = .ok (.iaload, 1) := by decide +kernel
theorem dX7_sizeOf_9 : decode cX7_sizeOf 9 = .ok (.istore_n 2, 1) := by decide +kernel
theorem dX7_sizeOf_10 : decode cX7_sizeOf 10 = .ok (.iload_n 2, 1) := by decide +kernel
theorem dX7_sizeOf_11 : decode cX7_sizeOf 11 = .ok (.iconst 5, 1) := by decide +kernel
theorem dX7_sizeOf_12 : decode cX7_sizeOf 12 = .ok (.if_icmp .ne 17, 3) := by decide +kernel
theorem dX7_sizeOf_15 : decode cX7_sizeOf 15 = .ok (.aload_n 0, 1) := by decide +kernel
theorem dX7_sizeOf_16 : decode cX7_sizeOf 16 = .ok (.bipush 14, 2) := by decide +kernel
theorem dX7_sizeOf_18 : decode cX7_sizeOf 18 = .ok (.invokevirtual 209, 3) := by decide +kernel
theorem dX7_sizeOf_21 : decode cX7_sizeOf 21 = .ok (.iconst 2, 1) := by decide +kernel
theorem dX7_sizeOf_22 : decode cX7_sizeOf 22 = .ok (.aload_n 0, 1) := by decide +kernel
theorem dX7_sizeOf_23 : decode cX7_sizeOf 23 = .ok (.iload_n 1, 1) := by decide +kernel
theorem dX7_sizeOf_24 : decode cX7_sizeOf 24 = .ok (.invokevirtual 215, 3) := by decide +kernel
theorem dX7_sizeOf_27 : decode cX7_sizeOf 27 = .ok (.imul, 1) := by decide +kernel
theorem dX7_sizeOf_28 : decode cX7_sizeOf 28 = .ok (.ireturn, 1) := by decide +kernel
theorem dX7_sizeOf_29 : decode cX7_sizeOf 29 = .ok (.iload_n 2, 1) := by decide +kernel
theorem dX7_sizeOf_30 : decode cX7_sizeOf 30 = .ok (.iconst 4, 1) := by decide +kernel
theorem dX7_sizeOf_31 : decode cX7_sizeOf 31 = .ok (.if_icmp .ne 9, 3) := by decide +kernel
theorem dX7_sizeOf_34 : decode cX7_sizeOf 34 = .ok (.aload_n 0, 1) := by decide +kernel
theorem dX7_sizeOf_35 : decode cX7_sizeOf 35 = .ok (.iload_n 1, 1) := by decide +kernel
theorem dX7_sizeOf_36 : decode cX7_sizeOf 36 = .ok (.invokevirtual 215, 3) := by decide +kernel
theorem dX7_sizeOf_39 : decode cX7_sizeOf 39 = .ok (.ireturn, 1) := by decide +kernel
theorem dX7_sizeOf_40 : decode cX7_sizeOf 40 = .ok (.iload_n 2, 1) := by decide +kernel
theorem dX7_sizeOf_41 : decode cX7_sizeOf 41 = .ok (.iconst 2, 1) := by decide +kernel
theorem dX7_sizeOf_42 : decode cX7_sizeOf 42 = .ok (.if_icmp .ne 9, 3) := by decide +kernel
theorem dX7_sizeOf_45 : decode cX7_sizeOf 45 = .ok (.aload_n 0, 1) := by decide +kernel
theorem dX7_sizeOf_46 : decode cX7_sizeOf 46 = .ok (.bipush 12, 2) := by decide +kernel
theorem dX7_sizeOf_48 : decode cX7_sizeOf 48 = .ok (.invokevirtual 209, 3) := by decide +kernel
theorem dX7_sizeOf_51 : decode cX7_sizeOf 51 = .ok (.aload_n 0, 1) := by decide +kernel
theorem dX7_sizeOf_52 : decode cX7_sizeOf 52 = .ok (.bipush 11, 2) := by decide +kernel
theorem dX7_sizeOf_54 : decode cX7_sizeOf 54 = .ok (.invokevirtual 209, 3) := by decide +kernel
theorem dX7_sizeOf_57 : decode cX7_sizeOf 57 = .ok (.aload_n 0, 1) := by decide +kernel
theorem dX7_sizeOf_58 : decode cX7_sizeOf 58 = .ok (.bipush 10, 2) := by decide +kernel
theorem dX7_sizeOf_60 : decode cX7_sizeOf 60 = .ok (.invokevirtual 209, 3) := by decide +kernel
theorem dX7_sizeOf_63 : decode cX7_sizeOf 63 = .ok (.aload_n 0, 1) := by decide +kernel
theorem dX7_sizeOf_64 : decode cX7_sizeOf 64 = .ok (.getfield 22, 3) := by decide +kernel
theorem dX7_sizeOf_67 : decode cX7_sizeOf 67 = .ok (.bipush 27, 2) := by decide +kernel
theorem dX7_sizeOf_69 : decode cX7_sizeOf 69 = .ok (.iload_n 1, 1) := by decide +kernel
theorem dX7_sizeOf_70 : decode cX7_sizeOf 70 = .ok (.iadd, 1) := by decide +kernel
theorem dX7_sizeOf_71 : decode cX7_sizeOf 71 = .ok (.iaload, 1) := by decide +kernel
theorem dX7_sizeOf_72 : decode cX7_sizeOf 72 = .ok (.aload_n 0, 1) := by decide +kernel
theorem dX7_sizeOf_73 : decode cX7_sizeOf 73 = .ok (.iload_n 1, 1) := by decide +kernel
theorem dX7_sizeOf_74 : decode cX7_sizeOf 74 = .ok (.invokevirtual 218, 3) := by decide +kernel
theorem dX7_sizeOf_77 : decode cX7_sizeOf 77 = .ok (.iadd, 1) := by decide +kernel
theorem dX7_sizeOf_78 : decode cX7_sizeOf 78 = .ok (.istore_n 3, 1) := by decide +kernel
theorem dX7_sizeOf_79 : decode cX7_sizeOf 79 = .ok (.iload_n 2, 1) := by decide +kernel
theorem dX7_sizeOf_80 : decode cX7_sizeOf 80 = .ok (.iconst 2, 1) := by decide +kernel
theorem dX7_sizeOf_81 : decode cX7_sizeOf 81 = .ok (.if_icmp .ne 8, 3) := by decide +kernel
theorem dX7_sizeOf_84 : decode cX7_sizeOf 84 = .ok (.iload_n 3, 1) := by decide +kernel
theorem dX7_sizeOf_85 : decode cX7_sizeOf 85 = .ok (.ineg, 1) := by decide +kernel
theorem dX7_sizeOf_86 : decode cX7_sizeOf 86 = .ok (.goto 4, 3) := by decide +kernel
theorem dX7_sizeOf_89 : decode cX7_sizeOf 89 = .ok (.iload_n 3, 1) := by decide +kernel
theorem dX7_sizeOf_90 : decode cX7_sizeOf 90 = .ok (.ireturn, 1) := by decide +kernel
theorem dX7_markOf_0 : decode cX7_markOf 0 = .ok (.aload_n 0, 1) := by decide +kernel
theorem dX7_markOf_1 : decode cX7_markOf 1 = .ok (.getfield 22, 3) := by decide +kernel
theorem dX7_markOf_4 : decode cX7_markOf 4 = .ok (.bipush 22, 2) := by decide +kernel
theorem dX7_markOf_6 : decode cX7_markOf 6 = .ok (.iload_n 1, 1) := by decide +kernel
theorem dX7_markOf_7 : decode cX7_markOf 7 = .ok (.iadd, 1) := by decide +kernel
theorem dX7_markOf_8 : decode cX7_markOf 8 = .ok (.iaload, 1) := by decide +kernel
theorem dX7_markOf_9 : decode cX7_markOf 9 = .ok (.iconst 4, 1) := by decide +kernel
theorem dX7_markOf_10 : decode cX7_markOf 10 = .ok (.if_icmp .ge 9, 3) := by decide +kernel
theorem dX7_markOf_13 : decode cX7_markOf 13 = .ok (.aload_n 0, 1) := by decide +kernel
theorem dX7_markOf_14 : decode cX7_markOf 14 = .ok (.iload_n 1, 1) := by decide +kernel
theorem dX7_markOf_15 : decode cX7_markOf 15 = .ok (.invokevirtual 218, 3) := by decide +kernel
theorem dX7_markOf_18 : decode cX7_markOf 18 = .ok (.ireturn, 1) := by decide +kernel
theorem dX7_markOf_19 : decode cX7_markOf 19 = .ok (.aload_n 0, 1) := by decide +kernel
theorem dX7_markOf_20 : decode cX7_markOf 20 = .ok (.bipush 23, 2) := by decide +kernel
theorem dX7_markOf_22 : decode cX7_markOf 22 = .ok (.invokevirtual 209, 3) := by decide +kernel
theorem dX7_markOf_25 : decode cX7_markOf 25 = .ok (.aload_n 0, 1) := by decide +kernel
theorem dX7_markOf_26 : decode cX7_markOf 26 = .ok (.bipush 20, 2) := by decide +kernel
theorem dX7_markOf_28 : decode cX7_markOf 28 = .ok (.invokevirtual 209, 3) := by decide +kernel
theorem dX7_markOf_31 : decode cX7_markOf 31 = .ok (.iload_n 1, 1) := by decide +kernel
theorem dX7_markOf_32 : decode cX7_markOf 32 = .ok (.aload_n 0, 1) := by decide +kernel
theorem dX7_markOf_33 : decode cX7_markOf 33 = .ok (.iload_n 1, 1) := by decide +kernel
theorem dX7_markOf_34 : decode cX7_markOf 34 = .ok (.invokevirtual 221, 3) := by decide +kernel
theorem dX7_markOf_37 : decode cX7_markOf 37 = .ok (.isub, 1) := by decide +kernel
theorem dX7_markOf_38 : decode cX7_markOf 38 = .ok (.ireturn, 1) := by decide +kernel
theorem dX7_ask_0 : decode cX7_ask 0 = .ok (.aload_n 0, 1) := by decide +kernel
theorem dX7_ask_1 : decode cX7_ask 1 = .ok (.iload_n 1, 1) := by decide +kernel
theorem dX7_ask_2 : decode cX7_ask 2 = .ok (.invokevirtual 170, 3) := by decide +kernel
theorem dX7_ask_5 : decode cX7_ask 5 = .ok (.ifCond .eq 12, 3) := by decide +kernel
theorem dX7_ask_8 : decode cX7_ask 8 = .ok (.iload_n 2, 1) := by decide +kernel
theorem dX7_ask_9 : decode cX7_ask 9 = .ok (.iconst 0, 1) := by decide +kernel
theorem dX7_ask_10 : decode cX7_ask 10 = .ok (.iconst 1, 1) := by decide +kernel
theorem dX7_ask_11 : decode cX7_ask 11 = .ok (.invokestatic 56, 3) := by decide +kernel
theorem dX7_ask_14 : decode cX7_ask 14 = .ok (.ifCond .ne 6, 3) := by decide +kernel
theorem dX7_ask_17 : decode cX7_ask 17 = .ok (.ldc 69, 2) := by decide +kernel
theorem dX7_ask_19 : decode cX7_ask 19 = .ok (.ireturn, 1) := by decide +kernel
theorem dX7_ask_20 : decode cX7_ask 20 = .ok (.aload_n 0, 1) := by decide +kernel
theorem dX7_ask_21 : decode cX7_ask 21 = .ok (.iconst 0, 1) := by decide +kernel
theorem dX7_ask_22 : decode cX7_ask 22 = .ok (.putfield 206, 3) := by decide +kernel
theorem dX7_ask_25 : decode cX7_ask 25 = .ok (.iload_n 2, 1) := by decide +kernel
theorem dX7_ask_26 : decode cX7_ask 26 = .ok (.ifCond .ne 11, 3) := by decide +kernel
theorem dX7_ask_29 : decode cX7_ask 29 = .ok (.aload_n 0, 1) := by decide +kernel
theorem dX7_ask_30 : decode cX7_ask 30 = .ok (.iload_n 1, 1) := by decide +kernel
theorem dX7_ask_31 : decode cX7_ask 31 = .ok (.invokevirtual 221, 3) := by decide +kernel
theorem dX7_ask_34 : decode cX7_ask 34 = .ok (.goto 8, 3) := by decide +kernel
theorem dX7_ask_37 : decode cX7_ask 37 = .ok (.aload_n 0, 1) := by decide +kernel
theorem dX7_ask_38 : decode cX7_ask 38 = .ok (.iload_n 1, 1) := by decide +kernel
theorem dX7_ask_39 : decode cX7_ask 39 = .ok (.invokevirtual 224, 3) := by decide +kernel
theorem dX7_ask_42 : decode cX7_ask 42 = .ok (.ireturn, 1) := by decide +kernel
theorem dX7_trace_0 : decode cX7_trace 0 = .ok (.iload_n 1, 1) := by decide +kernel
theorem dX7_trace_1 : decode cX7_trace 1 = .ok (.iconst 0, 1) := by decide +kernel
theorem dX7_trace_2 : decode cX7_trace 2 = .ok (.aload_n 0, 1) := by decide +kernel
theorem dX7_trace_3 : decode cX7_trace 3 = .ok (.getfield 206, 3) := by decide +kernel
theorem dX7_trace_6 : decode cX7_trace 6 = .ok (.iconst 1, 1) := by decide +kernel
theorem dX7_trace_7 : decode cX7_trace 7 = .ok (.isub, 1) := by decide +kernel
theorem dX7_trace_8 : decode cX7_trace 8 = .ok (.invokestatic 56, 3) := by decide +kernel
theorem dX7_trace_11 : decode cX7_trace 11 = .ok (.ifCond .eq 12, 3) := by decide +kernel
theorem dX7_trace_14 : decode cX7_trace 14 = .ok (.aload_n 0, 1) := by decide +kernel
theorem dX7_trace_15 : decode cX7_trace 15 = .ok (.getfield 41, 3) := by decide +kernel
theorem dX7_trace_18 : decode cX7_trace 18 = .ok (.iload_n 1, 1) := by decide +kernel
theorem dX7_trace_19 : decode cX7_trace 19 = .ok (.iaload, 1) := by decide +kernel
theorem dX7_trace_20 : decode cX7_trace 20 = .ok (.goto 5, 3) := by decide +kernel
theorem dX7_trace_23 : decode cX7_trace 23 = .ok (.ldc 183, 2) := by decide +kernel
theorem dX7_trace_25 : decode cX7_trace 25 = .ok (.ireturn, 1) := by decide +kernel
theorem dX7_count_0 : decode cX7_count 0 = .ok (.iconst 0, 1) := by decide +kernel
theorem dX7_count_1 : decode cX7_count 1 = .ok (.istore_n 2, 1) := by decide +kernel
theorem dX7_count_2 : decode cX7_count 2 = .ok (.iconst 0, 1) := by decide +kernel
theorem dX7_count_3 : decode cX7_count 3 = .ok (.istore_n 3, 1) := by decide +kernel
theorem dX7_count_4 : decode cX7_count 4 = .ok (.iload_n 3, 1) := by decide +kernel
theorem dX7_count_5 : decode cX7_count 5 = .ok (.bipush 8, 2) := by decide +kernel
theorem dX7_count_7 : decode cX7_count 7 = .ok (.if_icmp .ge 26, 3) := by decide +kernel
theorem dX7_count_10 : decode cX7_count 10 = .ok (.iload_n 2, 1) := by decide +kernel
theorem dX7_count_11 : decode cX7_count 11 = .ok (.aload_n 0, 1) := by decide +kernel
theorem dX7_count_12 : decode cX7_count 12 = .ok (.getfield 7, 3) := by decide +kernel
theorem dX7_count_15 : decode cX7_count 15 = .ok (.iload_n 3, 1) := by decide +kernel
theorem dX7_count_16 : decode cX7_count 16 = .ok (.iaload, 1) := by decide +kernel
theorem dX7_count_17 : decode cX7_count 17 = .ok (.ifCond .ge 7, 3) := by decide +kernel
theorem dX7_count_20 : decode cX7_count 20 = .ok (.iconst 0, 1) := by decide +kernel
theorem dX7_count_21 : decode cX7_count 21 = .ok (.goto 4, 3) := by decide +kernel
theorem dX7_count_24 : decode cX7_count 24 = .ok (.iconst 1, 1) := by decide +kernel
theorem dX7_count_25 : decode cX7_count 25 = .ok (.iadd, 1) := by decide +kernel
theorem dX7_count_26 : decode cX7_count 26 = .ok (.istore_n 2, 1) := by decide +kernel
theorem dX7_count_27 : decode cX7_count 27 = .ok (.iinc 3 1, 3) := by decide +kernel
theorem dX7_count_30 : decode cX7_count 30 = .ok (.goto (-26), 3) := by decide +kernel
theorem dX7_count_33 : decode cX7_count 33 = .ok (.iload_n 1, 1) := by decide +kernel
theorem dX7_count_34 : decode cX7_count 34 = .ok (.tableswitch 97 0 7 #[46, 48, 55, 62, 69, 76, 87, 92], 46) := by decide +kernel
theorem dX7_count_80 : decode cX7_count 80 = .ok (.iload_n 2, 1) := by decide +kernel
theorem dX7_count_81 : decode cX7_count 81 = .ok (.ireturn, 1) := by decide +kernel
theorem dX7_count_82 : decode cX7_count 82 = .ok (.aload_n 0, 1) := by decide +kernel
theorem dX7_count_83 : decode cX7_count 83 = .ok (.getfield 22, 3) := by decide +kernel
theorem dX7_count_86 : decode cX7_count 86 = .ok (.iconst 2, 1) := by decide +kernel
theorem dX7_count_87 : decode cX7_count 87 = .ok (.iaload, 1) := by decide +kernel
theorem dX7_count_88 : decode cX7_count 88 = .ok (.ireturn, 1) := by decide +kernel
theorem dX7_count_89 : decode cX7_count 89 = .ok (.aload_n 0, 1) := by decide +kernel
theorem dX7_count_90 : decode cX7_count 90 = .ok (.getfield 22, 3) := by decide +kernel
theorem dX7_count_93 : decode cX7_count 93 = .ok (.iconst 3, 1) := by decide +kernel
theorem dX7_count_94 : decode cX7_count 94 = .ok (.iaload, 1) := by decide +kernel
theorem dX7_count_95 : decode cX7_count 95 = .ok (.ireturn, 1) := by decide +kernel
theorem dX7_count_96 : decode cX7_count 96 = .ok (.aload_n 0, 1) := by decide +kernel
theorem dX7_count_97 : decode cX7_count 97 = .ok (.getfield 22, 3) := by decide +kernel
theorem dX7_count_100 : decode cX7_count 100 = .ok (.iconst 0, 1) := by decide +kernel
theorem dX7_count_101 : decode cX7_count 101 = .ok (.iaload, 1) := by decide +kernel
theorem dX7_count_102 : decode cX7_count 102 = .ok (.ireturn, 1) := by decide +kernel
theorem dX7_count_103 : decode cX7_count 103 = .ok (.aload_n 0, 1) := by decide +kernel
theorem dX7_count_104 : decode cX7_count 104 = .ok (.getfield 22, 3) := by decide +kernel
theorem dX7_count_107 : decode cX7_count 107 = .ok (.iconst 1, 1) := by decide +kernel
theorem dX7_count_108 : decode cX7_count 108 = .ok (.iaload, 1) := by decide +kernel
theorem dX7_count_109 : decode cX7_count 109 = .ok (.ireturn, 1) := by decide +kernel
theorem dX7_count_110 : decode cX7_count 110 = .ok (.aload_n 0, 1) := by decide +kernel
theorem dX7_count_111 : decode cX7_count 111 = .ok (.getfield 22, 3) := by decide +kernel
theorem dX7_count_114 : decode cX7_count 114 = .ok (.invokestatic 166, 3) := by decide +kernel
theorem dX7_count_117 : decode cX7_count 117 = .ok (.invokestatic 137, 3) := by decide +kernel
theorem dX7_count_120 : decode cX7_count 120 = .ok (.ireturn, 1) := by decide +kernel
theorem dX7_count_121 : decode cX7_count 121 = .ok (.aload_n 0, 1) := by decide +kernel
theorem dX7_count_122 : decode cX7_count 122 = .ok (.getfield 134, 3) := by decide +kernel
theorem dX7_count_125 : decode cX7_count 125 = .ok (.ireturn, 1) := by decide +kernel
theorem dX7_count_126 : decode cX7_count 126 = .ok (.aload_n 0, 1) := by decide +kernel
theorem dX7_count_127 : decode cX7_count 127 = .ok (.getfield 80, 3) := by decide +kernel
theorem dX7_count_130 : decode cX7_count 130 = .ok (.ireturn, 1) := by decide +kernel
theorem dX7_count_131 : decode cX7_count 131 = .ok (.ldc 69, 2) := by decide +kernel
theorem dX7_count_133 : decode cX7_count 133 = .ok (.ireturn, 1) := by decide +kernel
theorem dX7_status_0 : decode cX7_status 0 = .ok (.aload_n 0, 1) := by decide +kernel
theorem dX7_status_1 : decode cX7_status 1 = .ok (.getfield 60, 3) := by decide +kernel
theorem dX7_status_4 : decode cX7_status 4 = .ok (.ireturn, 1) := by decide +kernel
