theorem dX5_init_0 : decode cX5_init 0 = .ok (.aload_n 0, 1) := by decide +kernel
theorem dX5_init_1 : decode cX5_init 1 = .ok (.invokespecial 3, 3) := by decide +kernel
theorem dX5_init_4 : decode cX5_init 4 = .ok (.aload_n 0, 1) := by decide +kernel
theorem dX5_init_5 : decode cX5_init 5 = .ok (.iconst 0, 1) := by decide +kernel
theorem dX5_init_6 : decode cX5_init 6 = .ok (.putfield 9, 3) := by decide +kernel
theorem dX5_init_9 : decode cX5_init 9 = .ok (.aload_n 0, 1) := by decide +kernel
theorem dX5_init_10 : decode cX5_init 10 = .ok (.iconst 0, 1) := by decide +kernel
theorem dX5_init_11 : decode cX5_init 11 = .ok (.putfield 15, 3) := by decide +kernel
theorem dX5_init_14 : decode cX5_init 14 = .ok (.aload_n 0, 1) := by decide +kernel
theorem dX5_init_15 : decode cX5_init 15 = .ok (.iconst 0, 1) := by decide +kernel
theorem dX5_init_16 : decode cX5_init 16 = .ok (.putfield 18, 3) := by decide +kernel
theorem dX5_init_19 : decode cX5_init 19 = .ok (.aload_n 0, 1) := by decide +kernel
theorem dX5_init_20 : decode cX5_init 20 = .ok (.iconst 0, 1) := by decide +kernel
theorem dX5_init_21 : decode cX5_init 21 = .ok (.putfield 21, 3) := by decide +kernel
theorem dX5_init_24 : decode cX5_init 24 = .ok (.aload_n 0, 1) := by decide +kernel
theorem dX5_init_25 : decode cX5_init 25 = .ok (.iconst 0, 1) := by decide +kernel
theorem dX5_init_26 : decode cX5_init 26 = .ok (.putfield 24, 3) := by decide +kernel
theorem dX5_init_29 : decode cX5_init 29 = .ok (.aload_n 0, 1) := by decide +kernel
theorem dX5_init_30 : decode cX5_init 30 = .ok (.bipush 6, 2) := by decide +kernel
theorem dX5_init_32 : decode cX5_init 32 = .ok (.newarray .int, 2) := by decide +kernel
theorem dX5_init_34 : decode cX5_init 34 = .ok (.putfield 27, 3) := by decide +kernel
theorem dX5_init_37 : decode cX5_init 37 = .ok (.aload_n 0, 1) := by decide +kernel
theorem dX5_init_38 : decode cX5_init 38 = .ok (.bipush 6, 2) := by decide +kernel
theorem dX5_init_40 : decode cX5_init 40 = .ok (.newarray .int, 2) := by decide +kernel
theorem dX5_init_42 : decode cX5_init 42 = .ok (.putfield 31, 3) := by decide +kernel
theorem dX5_init_45 : decode cX5_init 45 = .ok (.aload_n 0, 1) := by decide +kernel
theorem dX5_init_46 : decode cX5_init 46 = .ok (.bipush 6, 2) := by decide +kernel
theorem dX5_init_48 : decode cX5_init 48 = .ok (.newarray .int, 2) := by decide +kernel
theorem dX5_init_50 : decode cX5_init 50 = .ok (.putfield 34, 3) := by decide +kernel
theorem dX5_init_53 : decode cX5_init 53 = .ok (.aload_n 0, 1) := by decide +kernel
theorem dX5_init_54 : decode cX5_init 54 = .ok (.iconst 5, 1) := by decide +kernel
theorem dX5_init_55 : decode cX5_init 55 = .ok (.newarray .int, 2) := by decide +kernel
theorem dX5_init_57 : decode cX5_init 57 = .ok (.putfield 37, 3) := by decide +kernel
theorem dX5_init_60 : decode cX5_init 60 = .ok (.aload_n 0, 1) := by decide +kernel
theorem dX5_init_61 : decode cX5_init 61 = .ok (.iconst 5, 1) := by decide +kernel
theorem dX5_init_62 : decode cX5_init 62 = .ok (.newarray .int, 2) := by decide +kernel
theorem dX5_init_64 : decode cX5_init 64 = .ok (.putfield 40, 3) := by decide +kernel
theorem dX5_init_67 : decode cX5_init 67 = .ok (.aload_n 0, 1) := by decide +kernel
theorem dX5_init_68 : decode cX5_init 68 = .ok (.iconst 5, 1) := by decide +kernel
theorem dX5_init_69 : decode cX5_init 69 = .ok (.newarray .int, 2) := by decide +kernel
theorem dX5_init_71 : decode cX5_init 71 = .ok (.putfield 43, 3) := by decide +kernel
theorem dX5_init_74 : decode cX5_init 74 = .ok (.aload_n 0, 1) := by decide +kernel
theorem dX5_init_75 : decode cX5_init 75 = .ok (.iconst 5, 1) := by decide +kernel
theorem dX5_init_76 : decode cX5_init 76 = .ok (.newarray .int, 2) := by decide +kernel
theorem dX5_init_78 : decode cX5_init 78 = .ok (.putfield 46, 3) := by decide +kernel
theorem dX5_init_81 : decode cX5_init 81 = .ok (.return_, 1) := by decide +kernel
theorem dX5_clear_0 : decode cX5_clear 0 = .ok (.aload_n 0, 1) := by decide +kernel
theorem dX5_clear_1 : decode cX5_clear 1 = .ok (.iconst 0, 1) := by decide +kernel
theorem dX5_clear_2 : decode cX5_clear 2 = .ok (.putfield 9, 3) := by decide +kernel
theorem dX5_clear_5 : decode cX5_clear 5 = .ok (.aload_n 0, 1) := by decide +kernel
theorem dX5_clear_6 : decode cX5_clear 6 = .ok (.iconst 0, 1) := by decide +kernel
theorem dX5_clear_7 : decode cX5_clear 7 = .ok (.putfield 15, 3) := by decide +kernel
theorem dX5_clear_10 : decode cX5_clear 10 = .ok (.aload_n 0, 1) := by decide +kernel
theorem dX5_clear_11 : decode cX5_clear 11 = .ok (.iconst 0, 1) := by decide +kernel
theorem dX5_clear_12 : decode cX5_clear 12 = .ok (.putfield 18, 3) := by decide +kernel
theorem dX5_clear_15 : decode cX5_clear 15 = .ok (.aload_n 0, 1) := by decide +kernel
theorem dX5_clear_16 : decode cX5_clear 16 = .ok (.iconst 0, 1) := by decide +kernel
theorem dX5_clear_17 : decode cX5_clear 17 = .ok (.putfield 21, 3) := by decide +kernel
theorem dX5_clear_20 : decode cX5_clear 20 = .ok (.aload_n 0, 1) := by decide +kernel
theorem dX5_clear_21 : decode cX5_clear 21 = .ok (.iconst 0, 1) := by decide +kernel
theorem dX5_clear_22 : decode cX5_clear 22 = .ok (.putfield 24, 3) := by decide +kernel
theorem dX5_clear_25 : decode cX5_clear 25 = .ok (.iconst 0, 1) := by decide +kernel
theorem dX5_clear_26 : decode cX5_clear 26 = .ok (.istore_n 1, 1) := by decide +kernel
theorem dX5_clear_27 : decode cX5_clear 27 = .ok (.iload_n 1, 1) := by decide +kernel
theorem dX5_clear_28 : decode cX5_clear 28 = .ok (.iconst 5, 1) := by decide +kernel
theorem dX5_clear_29 : decode cX5_clear 29 = .ok (.if_icmp .ge 16, 3) := by decide +kernel
theorem dX5_clear_32 : decode cX5_clear 32 = .ok (.aload_n 0, 1) := by decide +kernel
theorem dX5_clear_33 : decode cX5_clear 33 = .ok (.getfield 46, 3) := by decide +kernel
theorem dX5_clear_36 : decode cX5_clear 36 = .ok (.iload_n 1, 1) := by decide +kernel
theorem dX5_clear_37 : decode cX5_clear 37 = .ok (.iconst 0, 1) := by decide +kernel
theorem dX5_clear_38 : decode cX5_clear 38 = .ok (.iastore, 1) := by decide +kernel
theorem dX5_clear_39 : decode cX5_clear 39 = .ok (.iinc 1 1, 3) := by decide +kernel
theorem dX5_clear_42 : decode cX5_clear 42 = .ok (.goto (-15), 3) := by decide +kernel
theorem dX5_clear_45 : decode cX5_clear 45 = .ok (.return_, 1) := by decide +kernel
theorem dX5_become_0 : decode cX5_become 0 = .ok (.aload_n 0, 1) := by decide +kernel
theorem dX5_become_1 : decode cX5_become 1 = .ok (.aload_n 1, 1) := by decide +kernel
theorem dX5_become_2 : decode cX5_become 2 = .ok (.getfield 9, 3) := by decide +kernel
theorem dX5_become_5 : decode cX5_become 5 = .ok (.putfield 9, 3) := by decide +kernel
theorem dX5_become_8 : decode cX5_become 8 = .ok (.aload_n 0, 1) := by decide +kernel
theorem dX5_become_9 : decode cX5_become 9 = .ok (.aload_n 1, 1) := by decide +kernel
theorem dX5_become_10 : decode cX5_become 10 = .ok (.getfield 15, 3) := by decide +kernel
theorem dX5_become_13 : decode cX5_become 13 = .ok (.putfield 15, 3) := by decide +kernel
theorem dX5_become_16 : decode cX5_become 16 = .ok (.aload_n 0, 1) := by decide +kernel
theorem dX5_become_17 : decode cX5_become 17 = .ok (.aload_n 1, 1) := by decide +kernel
theorem dX5_become_18 : decode cX5_become 18 = .ok (.getfield 21, 3) := by decide +kernel
theorem dX5_become_21 : decode cX5_become 21 = .ok (.putfield 21, 3) := by decide +kernel
theorem dX5_become_24 : decode cX5_become 24 = .ok (.aload_n 1, 1) := by decide +kernel
theorem dX5_become_25 : decode cX5_become 25 = .ok (.getfield 27, 3) := by decide +kernel
theorem dX5_become_28 : decode cX5_become 28 = .ok (.iconst 0, 1) := by decide +kernel
theorem dX5_become_29 : decode cX5_become 29 = .ok (.aload_n 0, 1) := by decide +kernel
theorem dX5_become_30 : decode cX5_become 30 = .ok (.getfield 27, 3) := by decide +kernel
theorem dX5_become_33 : decode cX5_become 33 = .ok (.iconst 0, 1) := by decide +kernel
theorem dX5_become_34 : decode cX5_become 34 = .ok (.bipush 6, 2) := by decide +kernel
theorem dX5_become_36 : decode cX5_become 36 = .ok (.invokestatic 49, 3) := by decide +kernel
theorem dX5_become_39 : decode cX5_become 39 = .ok (.aload_n 1, 1) := by decide +kernel
theorem dX5_become_40 : decode cX5_become 40 = .ok (.getfield 31, 3) := by decide +kernel
theorem dX5_become_43 : decode cX5_become 43 = .ok (.iconst 0, 1) := by decide +kernel
theorem dX5_become_44 : decode cX5_become 44 = .ok (.aload_n 0, 1) := by decide +kernel
theorem dX5_become_45 : decode cX5_become 45 = .ok (.getfield 31, 3) := by decide +kernel
theorem dX5_become_48 : decode cX5_become 48 = .ok (.iconst 0, 1) := by decide +kernel
theorem dX5_become_49 : decode cX5_become 49 = .ok (.bipush 6, 2) := by decide +kernel
theorem dX5_become_51 : decode cX5_become 51 = .ok (.invokestatic 49, 3) := by decide +kernel
theorem dX5_become_54 : decode cX5_become 54 = .ok (.aload_n 1, 1) := by decide +kernel
theorem dX5_become_55 : decode cX5_become 55 = .ok (.getfield 34, 3) := by decide +kernel
theorem dX5_become_58 : decode cX5_become 58 = .ok (.iconst 0, 1) := by decide +kernel
theorem dX5_become_59 : decode cX5_become 59 = .ok (.aload_n 0, 1) := by decide +kernel
theorem dX5_become_60 : decode cX5_become 60 = .ok (.getfield 34, 3) := by decide +kernel
theorem dX5_become_63 : decode cX5_become 63 = .ok (.iconst 0, 1) := by decide +kernel
theorem dX5_become_64 : decode cX5_become 64 = .ok (.bipush 6, 2) := by decide +kernel
theorem dX5_become_66 : decode cX5_become 66 = .ok (.invokestatic 49, 3) := by decide +kernel
theorem dX5_become_69 : decode cX5_become 69 = .ok (.aload_n 1, 1) := by decide +kernel
theorem dX5_become_70 : decode cX5_become 70 = .ok (.getfield 37, 3) := by decide +kernel
theorem dX5_become_73 : decode cX5_become 73 = .ok (.iconst 0, 1) := by decide +kernel
theorem dX5_become_74 : decode cX5_become 74 = .ok (.aload_n 0, 1) := by decide +kernel
theorem dX5_become_75 : decode cX5_become 75 = .ok (.getfield 37, 3) := by decide +kernel
theorem dX5_become_78 : decode cX5_become 78 = .ok (.iconst 0, 1) := by decide +kernel
theorem dX5_become_79 : decode cX5_become 79 = .ok (.iconst 5, 1) := by decide +kernel
theorem dX5_become_80 : decode cX5_become 80 = .ok (.invokestatic 49, 3) := by decide +kernel
theorem dX5_become_83 : decode cX5_become 83 = .ok (.aload_n 1, 1) := by decide +kernel
theorem dX5_become_84 : decode cX5_become 84 = .ok (.getfield 40, 3) := by decide +kernel
theorem dX5_become_87 : decode cX5_become 87 = .ok (.iconst 0, 1) := by decide +kernel
theorem dX5_become_88 : decode cX5_become 88 = .ok (.aload_n 0, 1) := by decide +kernel
theorem dX5_become_89 : decode cX5_become 89 = .ok (.getfield 40, 3) := by decide +kernel
theorem dX5_become_92 : decode cX5_become 92 = .ok (.iconst 0, 1) := by decide +kernel
theorem dX5_become_93 : decode cX5_become 93 = .ok (.iconst 5, 1) := by decide +kernel
theorem dX5_become_94 : decode cX5_become 94 = .ok (.invokestatic 49, 3) := by decide +kernel
theorem dX5_become_97 : decode cX5_become 97 = .ok (.aload_n 1, 1) := by decide +kernel
theorem dX5_become_98 : decode cX5_become 98 = .ok (.getfield 43, 3) := by decide +kernel
theorem dX5_become_101 : decode cX5_become 101 = .ok (.iconst 0, 1) := by decide +kernel
theorem dX5_become_102 : decode cX5_become 102 = .ok (.aload_n 0, 1) := by decide +kernel
theorem dX5_become_103 : decode cX5_become 103 = .ok (.getfield 43, 3) := by decide +kernel
theorem dX5_become_106 : decode cX5_become 106 = .ok (.iconst 0, 1) := by decide +kernel
theorem dX5_become_107 : decode cX5_become 107 = .ok (.iconst 5, 1) := by decide +kernel
theorem dX5_become_108 : decode cX5_become 108 = .ok (.invokestatic 49, 3) := by decide +kernel
theorem dX5_become_111 : decode cX5_become 111 = .ok (.aload_n 0, 1) := by decide +kernel
theorem dX5_become_112 : decode cX5_become 112 = .ok (.aload_n 1, 1) := by decide +kernel
theorem dX5_become_113 : decode cX5_become 113 = .ok (.invokevirtual 55, 3) := by decide +kernel
theorem dX5_become_116 : decode cX5_become 116 = .ok (.return_, 1) := by decide +kernel
theorem dX5_goBackTo_0 : decode cX5_goBackTo 0 = .ok (.aload_n 0, 1) := by decide +kernel
theorem dX5_goBackTo_1 : decode cX5_goBackTo 1 = .ok (.aload_n 1, 1) := by decide +kernel
theorem dX5_goBackTo_2 : decode cX5_goBackTo 2 = .ok (.getfield 18, 3) := by decide +kernel
theorem dX5_goBackTo_5 : decode cX5_goBackTo 5 = .ok (.putfield 18, 3) := by decide +kernel
theorem dX5_goBackTo_8 : decode cX5_goBackTo 8 = .ok (.aload_n 0, 1) := by decide +kernel
theorem dX5_goBackTo_9 : decode cX5_goBackTo 9 = .ok (.aload_n 1, 1) := by decide +kernel
theorem dX5_goBackTo_10 : decode cX5_goBackTo 10 = .ok (.getfield 24, 3) := by decide +kernel
theorem dX5_goBackTo_13 : decode cX5_goBackTo 13 = .ok (.putfield 24, 3) := by decide +kernel
theorem dX5_goBackTo_16 : decode cX5_goBackTo 16 = .ok (.aload_n 1, 1) := by decide +kernel
theorem dX5_goBackTo_17 : decode cX5_goBackTo 17 = .ok (.getfield 46, 3) := by decide +kernel
theorem dX5_goBackTo_20 : decode cX5_goBackTo 20 = .ok (.iconst 0, 1) := by decide +kernel
theorem dX5_goBackTo_21 : decode cX5_goBackTo 21 = .ok (.aload_n 0, 1) := by decide +kernel
theorem dX5_goBackTo_22 : decode cX5_goBackTo 22 = .ok (.getfield 46, 3) := by decide +kernel
theorem dX5_goBackTo_25 : decode cX5_goBackTo 25 = .ok (.iconst 0, 1) := by decide +kernel
theorem dX5_goBackTo_26 : decode cX5_goBackTo 26 = .ok (.iconst 5, 1) := by decide +kernel
theorem dX5_goBackTo_27 : decode cX5_goBackTo 27 = .ok (.invokestatic 49, 3) := by decide +kernel
theorem dX5_goBackTo_30 : decode cX5_goBackTo 30 = .ok (.return_, 1) := by decide +kernel
theorem dX5_isOff_0 : decode cX5_isOff 0 = .ok (.aload_n 0, 1) := by decide +kernel
theorem dX5_isOff_1 : decode cX5_isOff 1 = .ok (.getfield 24, 3) := by decide +kernel
theorem dX5_isOff_4 : decode cX5_isOff 4 = .ok (.iload_n 1, 1) := by decide +kernel
theorem dX5_isOff_5 : decode cX5_isOff 5 = .ok (.ishr, 1) := by decide +kernel
theorem dX5_isOff_6 : decode cX5_isOff 6 = .ok (.iconst 1, 1) := by decide +kernel
theorem dX5_isOff_7 : decode cX5_isOff 7 = .ok (.iand, 1) := by decide +kernel
theorem dX5_isOff_8 : decode cX5_isOff 8 = .ok (.ifCond .eq 7, 3) := by decide +kernel
theorem dX5_isOff_11 : decode cX5_isOff 11 = .ok (.iconst 1, 1) := by decide +kernel
theorem dX5_isOff_12 : decode cX5_isOff 12 = .ok (.goto 4, 3) := by decide +kernel
theorem dX5_isOff_15 : decode cX5_isOff 15 = .ok (.iconst 0, 1) := by decide +kernel
theorem dX5_isOff_16 : decode cX5_isOff 16 = .ok (.ireturn, 1) := by decide +kernel
theorem dX5_wake_0 : decode cX5_wake 0 = .ok (.aload_n 0, 1) := by decide +kernel
theorem dX5_wake_1 : decode cX5_wake 1 = .ok (.dup, 1) := by decide +kernel
theorem dX5_wake_2 : decode cX5_wake 2 = .ok (.getfield 24, 3) := by decide +kernel
theorem dX5_wake_5 : decode cX5_wake 5 = .ok (.iconst 1, 1) := by decide +kernel
theorem dX5_wake_6 : decode cX5_wake 6 = .ok (.iload_n 1, 1) := by decide +kernel
theorem dX5_wake_7 : decode cX5_wake 7 = .ok (.ishl, 1) := by decide +kernel
theorem dX5_wake_8 : decode cX5_wake 8 = .ok (.iconst (-1), 1) := by decide +kernel
theorem dX5_wake_9 : decode cX5_wake 9 = .ok (.ixor, 1) := by decide +kernel
theorem dX5_wake_10 : decode cX5_wake 10 = .ok (.iand, 1) := by decide +kernel
theorem dX5_wake_11 : decode cX5_wake 11 = .ok (.putfield 24, 3) := by decide +kernel
theorem dX5_wake_14 : decode cX5_wake 14 = .ok (.return_, 1) := by decide +kernel
theorem dX5_startAnew_0 : decode cX5_startAnew 0 = .ok (.aload_n 0, 1) := by decide +kernel
theorem dX5_startAnew_1 : decode cX5_startAnew 1 = .ok (.getfield 46, 3) := by decide +kernel
theorem dX5_startAnew_4 : decode cX5_startAnew 4 = .ok (.iload_n 1, 1) := by decide +kernel
theorem dX5_startAnew_5 : decode cX5_startAnew 5 = .ok (.iconst 0, 1) := by decide +kernel
theorem dX5_startAnew_6 : decode cX5_startAnew 6 = .ok (.iastore, 1) := by decide +kernel
theorem dX5_startAnew_7 : decode cX5_startAnew 7 = .ok (.return_, 1) := by decide +kernel
theorem dX5_hears_0 : decode cX5_hears 0 = .ok (.aload_n 0, 1) := by decide +kernel
theorem dX5_hears_1 : decode cX5_hears 1 = .ok (.getfield 43, 3) := by decide +kernel
theorem dX5_hears_4 : decode cX5_hears 4 = .ok (.iload_n 1, 1) := by decide +kernel
theorem dX5_hears_5 : decode cX5_hears 5 = .ok (.iaload, 1) := by decide +kernel
theorem dX5_hears_6 : decode cX5_hears 6 = .ok (.ifCond .eq 16, 3) := by decide +kernel
theorem dX5_hears_9 : decode cX5_hears 9 = .ok (.aload_n 0, 1) := by decide +kernel
theorem dX5_hears_10 : decode cX5_hears 10 = .ok (.getfield 27, 3) := by decide +kernel
theorem dX5_hears_13 : decode cX5_hears 13 = .ok (.iload_n 2, 1) := by decide +kernel
theorem dX5_hears_14 : decode cX5_hears 14 = .ok (.iaload, 1) := by decide +kernel
theorem dX5_hears_15 : decode cX5_hears 15 = .ok (.aload_n 0, 1) := by decide +kernel
theorem dX5_hears_16 : decode cX5_hears 16 = .ok (.getfield 21, 3) := by decide +kernel
theorem dX5_hears_19 : decode cX5_hears 19 = .ok (.if_icmp .le 7, 3) := by decide +kernel
theorem dX5_hears_22 : decode cX5_hears 22 = .ok (.iconst 1, 1) := by decide +kernel
theorem dX5_hears_23 : decode cX5_hears 23 = .ok (.goto 4, 3) := by decide +kernel
theorem dX5_hears_26 : decode cX5_hears 26 = .ok (.iconst 0, 1) := by decide +kernel
theorem dX5_hears_27 : decode cX5_hears 27 = .ok (.ireturn, 1) := by decide +kernel
theorem dX5_heardBy_0 : decode cX5_heardBy 0 = .ok (.iconst 0, 1) := by decide +kernel
theorem dX5_heardBy_1 : decode cX5_heardBy 1 = .ok (.istore_n 2, 1) := by decide +kernel
theorem dX5_heardBy_2 : decode cX5_heardBy 2 = .ok (.iconst 0, 1) := by decide +kernel
theorem dX5_heardBy_3 : decode cX5_heardBy 3 = .ok (.istore_n 3, 1) := by decide +kernel
theorem dX5_heardBy_4 : decode cX5_heardBy 4 = .ok (.iload_n 3, 1) := by decide +kernel
theorem dX5_heardBy_5 : decode cX5_heardBy 5 = .ok (.aload_n 0, 1) := by decide +kernel
theorem dX5_heardBy_6 : decode cX5_heardBy 6 = .ok (.getfield 9, 3) := by decide +kernel
theorem dX5_heardBy_9 : decode cX5_heardBy 9 = .ok (.if_icmp .ge 24, 3) := by decide +kernel
theorem dX5_heardBy_12 : decode cX5_heardBy 12 = .ok (.aload_n 0, 1) := by decide +kernel
theorem dX5_heardBy_13 : decode cX5_heardBy 13 = .ok (.iload_n 1, 1) := by decide +kernel
theorem dX5_heardBy_14 : decode cX5_heardBy 14 = .ok (.iload_n 3, 1) := by decide +kernel
theorem dX5_heardBy_15 : decode cX5_heardBy 15 = .ok (.invokevirtual 59, 3) := by decide +kernel
theorem dX5_heardBy_18 : decode cX5_heardBy 18 = .ok (.ifCond .eq 9, 3) := by decide +kernel
theorem dX5_heardBy_21 : decode cX5_heardBy 21 = .ok (.iload_n 2, 1) := by decide +kernel
theorem dX5_heardBy_22 : decode cX5_heardBy 22 = .ok (.iconst 1, 1) := by decide +kernel
theorem dX5_heardBy_23 : decode cX5_heardBy 23 = .ok (.iload_n 3, 1) := by decide +kernel
theorem dX5_heardBy_24 : decode cX5_heardBy 24 = .ok (.ishl, 1) := by decide +kernel
theorem dX5_heardBy_25 : decode cX5_heardBy 25 = .ok (.ior, 1) := by decide +kernel
theorem dX5_heardBy_26 : decode cX5_heardBy 26 = .ok (.istore_n 2, 1) := by decide +kernel
theorem dX5_heardBy_27 : decode cX5_heardBy 27 = .ok (.iinc 3 1, 3) := by decide +kernel
theorem dX5_heardBy_30 : decode cX5_heardBy 30 = .ok (.goto (-26), 3) := by decide +kernel
theorem dX5_heardBy_33 : decode cX5_heardBy 33 = .ok (.iload_n 2, 1) := by decide +kernel
theorem dX5_heardBy_34 : decode cX5_heardBy 34 = .ok (.ireturn, 1) := by decide +kernel
theorem dX5_placeOf_0 : decode cX5_placeOf 0 = .ok (.iconst 0, 1) := by decide +kernel
theorem dX5_placeOf_1 : decode cX5_placeOf 1 = .ok (.istore_n 2, 1) := by decide +kernel
theorem dX5_placeOf_2 : decode cX5_placeOf 2 = .ok (.iload_n 2, 1) := by decide +kernel
theorem dX5_placeOf_3 : decode cX5_placeOf 3 = .ok (.aload_n 0, 1) := by decide +kernel
theorem dX5_placeOf_4 : decode cX5_placeOf 4 = .ok (.getfield 9, 3) := by decide +kernel
theorem dX5_placeOf_7 : decode cX5_placeOf 7 = .ok (.if_icmp .ge 21, 3) := by decide +kernel
theorem dX5_placeOf_10 : decode cX5_placeOf 10 = .ok (.aload_n 0, 1) := by decide +kernel
theorem dX5_placeOf_11 : decode cX5_placeOf 11 = .ok (.getfield 34, 3) := by decide +kernel
theorem dX5_placeOf_14 : decode cX5_placeOf 14 = .ok (.iload_n 2, 1) := by decide +kernel
theorem dX5_placeOf_15 : decode cX5_placeOf 15 = .ok (.iaload, 1) := by decide +kernel
theorem dX5_placeOf_16 : decode cX5_placeOf 16 = .ok (.iload_n 1, 1) := by decide +kernel
theorem dX5_placeOf_17 : decode cX5_placeOf 17 = .ok (.if_icmp .ne 5, 3) := by decide +kernel
theorem dX5_placeOf_20 : decode cX5_placeOf 20 = .ok (.iload_n 2, 1) := by decide +kernel
theorem dX5_placeOf_21 : decode cX5_placeOf 21 = .ok (.ireturn, 1) := by decide +kernel
theorem dX5_placeOf_22 : decode cX5_placeOf 22 = .ok (.iinc 2 1, 3) := by decide +kernel
theorem dX5_placeOf_25 : decode cX5_placeOf 25 = .ok (.goto (-23), 3) := by decide +kernel
theorem dX5_placeOf_28 : decode cX5_placeOf 28 = .ok (.ldc 63, 2) := by decide +kernel
theorem dX5_placeOf_30 : decode cX5_placeOf 30 = .ok (.ireturn, 1) := by decide +kernel
theorem dX5_swap_0 : decode cX5_swap 0 = .ok (.aload_n 0, 1) := by decide +kernel
theorem dX5_swap_1 : decode cX5_swap 1 = .ok (.getfield 34, 3) := by decide +kernel
theorem dX5_swap_4 : decode cX5_swap 4 = .ok (.iload_n 1, 1) := by decide +kernel
theorem dX5_swap_5 : decode cX5_swap 5 = .ok (.iaload, 1) := by decide +kernel
theorem dX5_swap_6 : decode cX5_swap 6 = .ok (.istore_n 3, 1) := by decide +kernel
theorem dX5_swap_7 : decode cX5_swap 7 = .ok (.aload_n 0, 1) := by decide +kernel
theorem dX5_swap_8 : decode cX5_swap 8 = .ok (.getfield 34, 3) := by decide +kernel
theorem dX5_swap_11 : decode cX5_swap 11 = .ok (.iload_n 1, 1) := by decide +kernel
theorem dX5_swap_12 : decode cX5_swap 12 = .ok (.aload_n 0, 1) := by decide +kernel
theorem dX5_swap_13 : decode cX5_swap 13 = .ok (.getfield 34, 3) := by decide +kernel
theorem dX5_swap_16 : decode cX5_swap 16 = .ok (.iload_n 2, 1) := by decide +kernel
theorem dX5_swap_17 : decode cX5_swap 17 = .ok (.iaload, 1) := by decide +kernel
theorem dX5_swap_18 : decode cX5_swap 18 = .ok (.iastore, 1) := by decide +kernel
theorem dX5_swap_19 : decode cX5_swap 19 = .ok (.aload_n 0, 1) := by decide +kernel
theorem dX5_swap_20 : decode cX5_swap 20 = .ok (.getfield 34, 3) := by decide +kernel
theorem dX5_swap_23 : decode cX5_swap 23 = .ok (.iload_n 2, 1) := by decide +kernel
theorem dX5_swap_24 : decode cX5_swap 24 = .ok (.iload_n 3, 1) := by decide +kernel
theorem dX5_swap_25 : decode cX5_swap 25 = .ok (.iastore, 1) := by decide +kernel
theorem dX5_swap_26 : decode cX5_swap 26 = .ok (.return_, 1) := by decide +kernel
theorem dX5_goOn_0 : decode cX5_goOn 0 = .ok (.aload_n 0, 1) := by decide +kernel
theorem dX5_goOn_1 : decode cX5_goOn 1 = .ok (.getfield 9, 3) := by decide +kernel
theorem dX5_goOn_4 : decode cX5_goOn 4 = .ok (.iconst 1, 1) := by decide +kernel
theorem dX5_goOn_5 : decode cX5_goOn 5 = .ok (.if_icmp .ge 4, 3) := by decide +kernel
theorem dX5_goOn_8 : decode cX5_goOn 8 = .ok (.return_, 1) := by decide +kernel
theorem dX5_goOn_9 : decode cX5_goOn 9 = .ok (.aload_n 0, 1) := by decide +kernel
theorem dX5_goOn_10 : decode cX5_goOn 10 = .ok (.getfield 34, 3) := by decide +kernel
theorem dX5_goOn_13 : decode cX5_goOn 13 = .ok (.aload_n 0, 1) := by decide +kernel
theorem dX5_goOn_14 : decode cX5_goOn 14 = .ok (.getfield 18, 3) := by decide +kernel
theorem dX5_goOn_17 : decode cX5_goOn 17 = .ok (.aload_n 0, 1) := by decide +kernel
theorem dX5_goOn_18 : decode cX5_goOn 18 = .ok (.getfield 9, 3) := by decide +kernel
theorem dX5_goOn_21 : decode cX5_goOn 21 = .ok (.irem, 1) := by decide +kernel
theorem dX5_goOn_22 : decode cX5_goOn 22 = .ok (.iaload, 1) := by decide +kernel
theorem dX5_goOn_23 : decode cX5_goOn 23 = .ok (.istore_n 2, 1) := by decide +kernel
theorem dX5_goOn_24 : decode cX5_goOn 24 = .ok (.aload_n 0, 1) := by decide +kernel
theorem dX5_goOn_25 : decode cX5_goOn 25 = .ok (.dup, 1) := by decide +kernel
theorem dX5_goOn_26 : decode cX5_goOn 26 = .ok (.getfield 18, 3) := by decide +kernel
theorem dX5_goOn_29 : decode cX5_goOn 29 = .ok (.iconst 1, 1) := by decide +kernel
theorem dX5_goOn_30 : decode cX5_goOn 30 = .ok (.iadd, 1) := by decide +kernel
theorem dX5_goOn_31 : decode cX5_goOn 31 = .ok (.putfield 18, 3) := by decide +kernel
theorem dX5_goOn_34 : decode cX5_goOn 34 = .ok (.iconst 0, 1) := by decide +kernel
theorem dX5_goOn_35 : decode cX5_goOn 35 = .ok (.istore_n 3, 1) := by decide +kernel
theorem dX5_goOn_36 : decode cX5_goOn 36 = .ok (.iload_n 3, 1) := by decide +kernel
theorem dX5_goOn_37 : decode cX5_goOn 37 = .ok (.aload_n 0, 1) := by decide +kernel
theorem dX5_goOn_38 : decode cX5_goOn 38 = .ok (.getfield 15, 3) := by decide +kernel
theorem dX5_goOn_41 : decode cX5_goOn 41 = .ok (.if_icmp .ge 67, 3) := by decide +kernel
theorem dX5_goOn_44 : decode cX5_goOn 44 = .ok (.iload_n 1, 1) := by decide +kernel
theorem dX5_goOn_45 : decode cX5_goOn 45 = .ok (.iload_n 3, 1) := by decide +kernel
theorem dX5_goOn_46 : decode cX5_goOn 46 = .ok (.ishr, 1) := by decide +kernel
theorem dX5_goOn_47 : decode cX5_goOn 47 = .ok (.iconst 1, 1) := by decide +kernel
theorem dX5_goOn_48 : decode cX5_goOn 48 = .ok (.iand, 1) := by decide +kernel
theorem dX5_goOn_49 : decode cX5_goOn 49 = .ok (.ifCond .ne 6, 3) := by decide +kernel
theorem dX5_goOn_52 : decode cX5_goOn 52 = .ok (.goto 50, 3) := by decide +kernel
theorem dX5_goOn_55 : decode cX5_goOn 55 = .ok (.aload_n 0, 1) := by decide +kernel
theorem dX5_goOn_56 : decode cX5_goOn 56 = .ok (.iload_n 3, 1) := by decide +kernel
theorem dX5_goOn_57 : decode cX5_goOn 57 = .ok (.iload_n 2, 1) := by decide +kernel
theorem dX5_goOn_58 : decode cX5_goOn 58 = .ok (.invokevirtual 59, 3) := by decide +kernel
theorem dX5_goOn_61 : decode cX5_goOn 61 = .ok (.ifCond .eq 14, 3) := by decide +kernel
theorem dX5_goOn_64 : decode cX5_goOn 64 = .ok (.aload_n 0, 1) := by decide +kernel
theorem dX5_goOn_65 : decode cX5_goOn 65 = .ok (.iload_n 3, 1) := by decide +kernel
theorem dX5_goOn_66 : decode cX5_goOn 66 = .ok (.aload_n 0, 1) := by decide +kernel
theorem dX5_goOn_67 : decode cX5_goOn 67 = .ok (.getfield 31, 3) := by decide +kernel
theorem dX5_goOn_70 : decode cX5_goOn 70 = .ok (.iload_n 2, 1) := by decide +kernel
theorem dX5_goOn_71 : decode cX5_goOn 71 = .ok (.iaload, 1) := by decide +kernel
theorem dX5_goOn_72 : decode cX5_goOn 72 = .ok (.invokevirtual 64, 3) := by decide +kernel
theorem dX5_goOn_75 : decode cX5_goOn 75 = .ok (.aload_n 0, 1) := by decide +kernel
theorem dX5_goOn_76 : decode cX5_goOn 76 = .ok (.getfield 46, 3) := by decide +kernel
theorem dX5_goOn_79 : decode cX5_goOn 79 = .ok (.iload_n 3, 1) := by decide +kernel
theorem dX5_goOn_80 : decode cX5_goOn 80 = .ok (.iaload, 1) := by decide +kernel
theorem dX5_goOn_81 : decode cX5_goOn 81 = .ok (.aload_n 0, 1) := by decide +kernel
theorem dX5_goOn_82 : decode cX5_goOn 82 = .ok (.getfield 40, 3) := by decide +kernel
theorem dX5_goOn_85 : decode cX5_goOn 85 = .ok (.iload_n 3, 1) := by decide +kernel
theorem dX5_goOn_86 : decode cX5_goOn 86 = .ok (.iaload, 1) := by decide +kernel
theorem dX5_goOn_87 : decode cX5_goOn 87 = .ok (.if_icmp .lt 15, 3) := by decide +kernel
theorem dX5_goOn_90 : decode cX5_goOn 90 = .ok (.aload_n 0, 1) := by decide +kernel
theorem dX5_goOn_91 : decode cX5_goOn 91 = .ok (.dup, 1) := by decide +kernel
theorem dX5_goOn_92 : decode cX5_goOn 92 = .ok (.getfield 24, 3) := by decide +kernel
theorem dX5_goOn_95 : decode cX5_goOn 95 = .ok (.iconst 1, 1) := by decide +kernel
theorem dX5_goOn_96 : decode cX5_goOn 96 = .ok (.iload_n 3, 1) := by decide +kernel
theorem dX5_goOn_97 : decode cX5_goOn 97 = .ok (.ishl, 1) := by decide +kernel
theorem dX5_goOn_98 : decode cX5_goOn 98 = .ok (.ior, 1) := by decide +kernel
theorem dX5_goOn_99 : decode cX5_goOn 99 = .ok (.putfield 24, 3) := by decide +kernel
theorem dX5_goOn_102 : decode cX5_goOn 102 = .ok (.iinc 3 1, 3) := by decide +kernel
theorem dX5_goOn_105 : decode cX5_goOn 105 = .ok (.goto (-69), 3) := by decide +kernel
theorem dX5_goOn_108 : decode cX5_goOn 108 = .ok (.return_, 1) := by decide +kernel
theorem dX5_hear_0 : decode cX5_hear 0 = .ok (.iload_n 2, 1) := by decide +kernel
theorem dX5_hear_1 : decode cX5_hear 1 = .ok (.iconst 2, 1) := by decide +kernel
theorem dX5_hear_2 : decode cX5_hear 2 = .ok (.if_icmp .lt 7, 3) := by decide +kernel
theorem dX5_hear_5 : decode cX5_hear 5 = .ok (.iconst 1, 1) := by decide +kernel
theorem dX5_hear_6 : decode cX5_hear 6 = .ok (.goto 4, 3) := by decide +kernel
theorem dX5_hear_9 : decode cX5_hear 9 = .ok (.iconst 0, 1) := by decide +kernel
theorem dX5_hear_10 : decode cX5_hear 10 = .ok (.istore_n 3, 1) := by decide +kernel
theorem dX5_hear_11 : decode cX5_hear 11 = .ok (.iload_n 2, 1) := by decide +kernel
theorem dX5_hear_12 : decode cX5_hear 12 = .ok (.iconst 1, 1) := by decide +kernel
theorem dX5_hear_13 : decode cX5_hear 13 = .ok (.iand, 1) := by decide +kernel
theorem dX5_hear_14 : decode cX5_hear 14 = .ok (.ifCond .ne 7, 3) := by decide +kernel
theorem dX5_hear_17 : decode cX5_hear 17 = .ok (.iconst 1, 1) := by decide +kernel
theorem dX5_hear_18 : decode cX5_hear 18 = .ok (.goto 4, 3) := by decide +kernel
theorem dX5_hear_21 : decode cX5_hear 21 = .ok (.iconst 0, 1) := by decide +kernel
theorem dX5_hear_22 : decode cX5_hear 22 = .ok (.istore 4, 2) := by decide +kernel
theorem dX5_hear_24 : decode cX5_hear 24 = .ok (.aload_n 0, 1) := by decide +kernel
theorem dX5_hear_25 : decode cX5_hear 25 = .ok (.getfield 37, 3) := by decide +kernel
theorem dX5_hear_28 : decode cX5_hear 28 = .ok (.iload_n 1, 1) := by decide +kernel
theorem dX5_hear_29 : decode cX5_hear 29 = .ok (.iaload, 1) := by decide +kernel
theorem dX5_hear_30 : decode cX5_hear 30 = .ok (.tableswitch 108 2 5 #[30, 48, 61, 82], 30) := by decide +kernel
theorem dX5_hear_60 : decode cX5_hear 60 = .ok (.aload_n 0, 1) := by decide +kernel
theorem dX5_hear_61 : decode cX5_hear 61 = .ok (.iload_n 1, 1) := by decide +kernel
theorem dX5_hear_62 : decode cX5_hear 62 = .ok (.iload 4, 2) := by decide +kernel
theorem dX5_hear_64 : decode cX5_hear 64 = .ok (.ifCond .eq 7, 3) := by decide +kernel
theorem dX5_hear_67 : decode cX5_hear 67 = .ok (.iconst 2, 1) := by decide +kernel
theorem dX5_hear_68 : decode cX5_hear 68 = .ok (.goto 4, 3) := by decide +kernel
theorem dX5_hear_71 : decode cX5_hear 71 = .ok (.iconst 1, 1) := by decide +kernel
theorem dX5_hear_72 : decode cX5_hear 72 = .ok (.invokevirtual 68, 3) := by decide +kernel
theorem dX5_hear_75 : decode cX5_hear 75 = .ok (.goto 69, 3) := by decide +kernel
theorem dX5_hear_78 : decode cX5_hear 78 = .ok (.iload_n 3, 1) := by decide +kernel
theorem dX5_hear_79 : decode cX5_hear 79 = .ok (.ifCond .ne 65, 3) := by decide +kernel
theorem dX5_hear_82 : decode cX5_hear 82 = .ok (.aload_n 0, 1) := by decide +kernel
theorem dX5_hear_83 : decode cX5_hear 83 = .ok (.iload_n 1, 1) := by decide +kernel
theorem dX5_hear_84 : decode cX5_hear 84 = .ok (.iconst 1, 1) := by decide +kernel
theorem dX5_hear_85 : decode cX5_hear 85 = .ok (.invokevirtual 68, 3) := by decide +kernel
theorem dX5_hear_88 : decode cX5_hear 88 = .ok (.goto 56, 3) := by decide +kernel
theorem dX5_hear_91 : decode cX5_hear 91 = .ok (.iload_n 3, 1) := by decide +kernel
theorem dX5_hear_92 : decode cX5_hear 92 = .ok (.ifCond .eq 11, 3) := by decide +kernel
theorem dX5_hear_95 : decode cX5_hear 95 = .ok (.aload_n 0, 1) := by decide +kernel
theorem dX5_hear_96 : decode cX5_hear 96 = .ok (.iload_n 1, 1) := by decide +kernel
theorem dX5_hear_97 : decode cX5_hear 97 = .ok (.invokevirtual 71, 3) := by decide +kernel
theorem dX5_hear_100 : decode cX5_hear 100 = .ok (.goto 44, 3) := by decide +kernel
theorem dX5_hear_103 : decode cX5_hear 103 = .ok (.aload_n 0, 1) := by decide +kernel
theorem dX5_hear_104 : decode cX5_hear 104 = .ok (.iload_n 1, 1) := by decide +kernel
theorem dX5_hear_105 : decode cX5_hear 105 = .ok (.iconst 1, 1) := by decide +kernel
theorem dX5_hear_106 : decode cX5_hear 106 = .ok (.invokevirtual 68, 3) := by decide +kernel
theorem dX5_hear_109 : decode cX5_hear 109 = .ok (.goto 35, 3) := by decide +kernel
theorem dX5_hear_112 : decode cX5_hear 112 = .ok (.iload_n 3, 1) := by decide +kernel
theorem dX5_hear_113 : decode cX5_hear 113 = .ok (.ifCond .eq 16, 3) := by decide +kernel
theorem dX5_hear_116 : decode cX5_hear 116 = .ok (.aload_n 0, 1) := by decide +kernel
theorem dX5_hear_117 : decode cX5_hear 117 = .ok (.iload_n 1, 1) := by decide +kernel
theorem dX5_hear_118 : decode cX5_hear 118 = .ok (.invokevirtual 71, 3) := by decide +kernel
theorem dX5_hear_121 : decode cX5_hear 121 = .ok (.aload_n 0, 1) := by decide +kernel
theorem dX5_hear_122 : decode cX5_hear 122 = .ok (.iload_n 1, 1) := by decide +kernel
theorem dX5_hear_123 : decode cX5_hear 123 = .ok (.invokevirtual 75, 3) := by decide +kernel
theorem dX5_hear_126 : decode cX5_hear 126 = .ok (.goto 18, 3) := by decide +kernel
theorem dX5_hear_129 : decode cX5_hear 129 = .ok (.aload_n 0, 1) := by decide +kernel
theorem dX5_hear_130 : decode cX5_hear 130 = .ok (.iload_n 1, 1) := by decide +kernel
theorem dX5_hear_131 : decode cX5_hear 131 = .ok (.iconst 1, 1) := by decide +kernel
theorem dX5_hear_132 : decode cX5_hear 132 = .ok (.invokevirtual 68, 3) := by decide +kernel
theorem dX5_hear_135 : decode cX5_hear 135 = .ok (.goto 9, 3) := by decide +kernel
theorem dX5_hear_138 : decode cX5_hear 138 = .ok (.aload_n 0, 1) := by decide +kernel
theorem dX5_hear_139 : decode cX5_hear 139 = .ok (.iload_n 1, 1) := by decide +kernel
theorem dX5_hear_140 : decode cX5_hear 140 = .ok (.iconst 1, 1) := by decide +kernel
theorem dX5_hear_141 : decode cX5_hear 141 = .ok (.invokevirtual 68, 3) := by decide +kernel
theorem dX5_hear_144 : decode cX5_hear 144 = .ok (.return_, 1) := by decide +kernel
theorem dX5_countMore_0 : decode cX5_countMore 0 = .ok (.aload_n 0, 1) := by decide +kernel
theorem dX5_countMore_1 : decode cX5_countMore 1 = .ok (.getfield 46, 3) := by decide +kernel
theorem dX5_countMore_4 : decode cX5_countMore 4 = .ok (.iload_n 1, 1) := by decide +kernel
theorem dX5_countMore_5 : decode cX5_countMore 5 = .ok (.bipush 99, 2) := by decide +kernel
theorem dX5_countMore_7 : decode cX5_countMore 7 = .ok (.aload_n 0, 1) := by decide +kernel
theorem dX5_countMore_8 : decode cX5_countMore 8 = .ok (.getfield 46, 3) := by decide +kernel
theorem dX5_countMore_11 : decode cX5_countMore 11 = .ok (.iload_n 1, 1) := by decide +kernel
theorem dX5_countMore_12 : decode cX5_countMore 12 = .ok (.iaload, 1) := by decide +kernel
theorem dX5_countMore_13 : decode cX5_countMore 13 = .ok (.iload_n 2, 1) := by decide +kernel
theorem dX5_countMore_14 : decode cX5_countMore 14 = .ok (.iadd, 1) := by decide +kernel
theorem dX5_countMore_15 : decode cX5_countMore 15 = .ok (.invokestatic 78, 3) := by decide +kernel
theorem dX5_countMore_18 : decode cX5_countMore 18 = .ok (.iastore, 1) := by decide +kernel
theorem dX5_countMore_19 : decode cX5_countMore 19 = .ok (.return_, 1) := by decide +kernel
theorem dX5_whatMatters_0 : decode cX5_whatMatters 0 = .ok (.lconst 0, 1) := by decide +kernel
theorem dX5_whatMatters_1 : decode cX5_whatMatters 1 = .ok (.lstore_n 2, 1) := by decide +kernel
theorem dX5_whatMatters_2 : decode cX5_whatMatters 2 = .ok (.iconst 0, 1) := by decide +kernel
theorem dX5_whatMatters_3 : decode cX5_whatMatters 3 = .ok (.istore 4, 2) := by decide +kernel
theorem dX5_whatMatters_5 : decode cX5_whatMatters 5 = .ok (.iload 4, 2) := by decide +kernel
theorem dX5_whatMatters_7 : decode cX5_whatMatters 7 = .ok (.aload_n 0, 1) := by decide +kernel
theorem dX5_whatMatters_8 : decode cX5_whatMatters 8 = .ok (.getfield 15, 3) := by decide +kernel
theorem dX5_whatMatters_11 : decode cX5_whatMatters 11 = .ok (.if_icmp .ge 73, 3) := by decide +kernel
theorem dX5_whatMatters_14 : decode cX5_whatMatters 14 = .ok (.iload_n 1, 1) := by decide +kernel
theorem dX5_whatMatters_15 : decode cX5_whatMatters 15 = .ok (.iload 4, 2) := by decide +kernel
theorem dX5_whatMatters_17 : decode cX5_whatMatters 17 = .ok (.ishr, 1) := by decide +kernel
theorem dX5_whatMatters_18 : decode cX5_whatMatters 18 = .ok (.iconst 1, 1) := by decide +kernel
theorem dX5_whatMatters_19 : decode cX5_whatMatters 19 = .ok (.iand, 1) := by decide +kernel
theorem dX5_whatMatters_20 : decode cX5_whatMatters 20 = .ok (.ifCond .ne 6, 3) := by decide +kernel
theorem dX5_whatMatters_23 : decode cX5_whatMatters 23 = .ok (.goto 55, 3) := by decide +kernel
theorem dX5_whatMatters_26 : decode cX5_whatMatters 26 = .ok (.aload_n 0, 1) := by decide +kernel
theorem dX5_whatMatters_27 : decode cX5_whatMatters 27 = .ok (.getfield 46, 3) := by decide +kernel
theorem dX5_whatMatters_30 : decode cX5_whatMatters 30 = .ok (.iload 4, 2) := by decide +kernel
theorem dX5_whatMatters_32 : decode cX5_whatMatters 32 = .ok (.iaload, 1) := by decide +kernel
theorem dX5_whatMatters_33 : decode cX5_whatMatters 33 = .ok (.istore 5, 2) := by decide +kernel
theorem dX5_whatMatters_35 : decode cX5_whatMatters 35 = .ok (.aload_n 0, 1) := by decide +kernel
theorem dX5_whatMatters_36 : decode cX5_whatMatters 36 = .ok (.iload 4, 2) := by decide +kernel
theorem dX5_whatMatters_38 : decode cX5_whatMatters 38 = .ok (.invokevirtual 84, 3) := by decide +kernel
theorem dX5_whatMatters_41 : decode cX5_whatMatters 41 = .ok (.ifCond .eq 28, 3) := by decide +kernel
theorem dX5_whatMatters_44 : decode cX5_whatMatters 44 = .ok (.aload_n 0, 1) := by decide +kernel
theorem dX5_whatMatters_45 : decode cX5_whatMatters 45 = .ok (.getfield 37, 3) := by decide +kernel
theorem dX5_whatMatters_48 : decode cX5_whatMatters 48 = .ok (.iload 4, 2) := by decide +kernel
theorem dX5_whatMatters_50 : decode cX5_whatMatters 50 = .ok (.iaload, 1) := by decide +kernel
theorem dX5_whatMatters_51 : decode cX5_whatMatters 51 = .ok (.iconst 5, 1) := by decide +kernel
theorem dX5_whatMatters_52 : decode cX5_whatMatters 52 = .ok (.if_icmp .ne 12, 3) := by decide +kernel
theorem dX5_whatMatters_55 : decode cX5_whatMatters 55 = .ok (.iload 5, 2) := by decide +kernel
theorem dX5_whatMatters_57 : decode cX5_whatMatters 57 = .ok (.sipush 128, 3) := by decide +kernel
theorem dX5_whatMatters_60 : decode cX5_whatMatters 60 = .ok (.iadd, 1) := by decide +kernel
theorem dX5_whatMatters_61 : decode cX5_whatMatters 61 = .ok (.goto 6, 3) := by decide +kernel
theorem dX5_whatMatters_64 : decode cX5_whatMatters 64 = .ok (.sipush 255, 3) := by decide +kernel
theorem dX5_whatMatters_67 : decode cX5_whatMatters 67 = .ok (.istore 5, 2) := by decide +kernel
theorem dX5_whatMatters_69 : decode cX5_whatMatters 69 = .ok (.lload_n 2, 1) := by decide +kernel
theorem dX5_whatMatters_70 : decode cX5_whatMatters 70 = .ok (.bipush 8, 2) := by decide +kernel
theorem dX5_whatMatters_72 : decode cX5_whatMatters 72 = .ok (.lshl, 1) := by decide +kernel
theorem dX5_whatMatters_73 : decode cX5_whatMatters 73 = .ok (.iload 5, 2) := by decide +kernel
theorem dX5_whatMatters_75 : decode cX5_whatMatters 75 = .ok (.i2l, 1) := by decide +kernel
theorem dX5_whatMatters_76 : decode cX5_whatMatters 76 = .ok (.lor, 1) := by decide +kernel
theorem dX5_whatMatters_77 : decode cX5_whatMatters 77 = .ok (.lstore_n 2, 1) := by decide +kernel
theorem dX5_whatMatters_78 : decode cX5_whatMatters 78 = .ok (.iinc 4 1, 3) := by decide +kernel
theorem dX5_whatMatters_81 : decode cX5_whatMatters 81 = .ok (.goto (-76), 3) := by decide +kernel
theorem dX5_whatMatters_84 : decode cX5_whatMatters 84 = .ok (.lload_n 2, 1) := by decide +kernel
theorem dX5_whatMatters_85 : decode cX5_whatMatters 85 = .ok (.lreturn, 1) := by decide +kernel
theorem dX5_keepOnly_0 : decode cX5_keepOnly 0 = .ok (.aload_n 0, 1) := by decide +kernel
theorem dX5_keepOnly_1 : decode cX5_keepOnly 1 = .ok (.iconst 0, 1) := by decide +kernel
theorem dX5_keepOnly_2 : decode cX5_keepOnly 2 = .ok (.putfield 9, 3) := by decide +kernel
theorem dX5_keepOnly_5 : decode cX5_keepOnly 5 = .ok (.iconst 0, 1) := by decide +kernel
theorem dX5_keepOnly_6 : decode cX5_keepOnly 6 = .ok (.istore_n 3, 1) := by decide +kernel
theorem dX5_keepOnly_7 : decode cX5_keepOnly 7 = .ok (.iload_n 3, 1) := by decide +kernel
theorem dX5_keepOnly_8 : decode cX5_keepOnly 8 = .ok (.aload_n 2, 1) := by decide +kernel
theorem dX5_keepOnly_9 : decode cX5_keepOnly 9 = .ok (.getfield 9, 3) := by decide +kernel
theorem dX5_keepOnly_12 : decode cX5_keepOnly 12 = .ok (.if_icmp .ge 44, 3) := by decide +kernel
theorem dX5_keepOnly_15 : decode cX5_keepOnly 15 = .ok (.aload_n 2, 1) := by decide +kernel
theorem dX5_keepOnly_16 : decode cX5_keepOnly 16 = .ok (.getfield 34, 3) := by decide +kernel
theorem dX5_keepOnly_19 : decode cX5_keepOnly 19 = .ok (.iload_n 3, 1) := by decide +kernel
theorem dX5_keepOnly_20 : decode cX5_keepOnly 20 = .ok (.iaload, 1) := by decide +kernel
theorem dX5_keepOnly_21 : decode cX5_keepOnly 21 = .ok (.istore 4, 2) := by decide +kernel
theorem dX5_keepOnly_23 : decode cX5_keepOnly 23 = .ok (.iload_n 1, 1) := by decide +kernel
theorem dX5_keepOnly_24 : decode cX5_keepOnly 24 = .ok (.iload 4, 2) := by decide +kernel
theorem dX5_keepOnly_26 : decode cX5_keepOnly 26 = .ok (.ishr, 1) := by decide +kernel
theorem dX5_keepOnly_27 : decode cX5_keepOnly 27 = .ok (.iconst 1, 1) := by decide +kernel
theorem dX5_keepOnly_28 : decode cX5_keepOnly 28 = .ok (.iand, 1) := by decide +kernel
theorem dX5_keepOnly_29 : decode cX5_keepOnly 29 = .ok (.ifCond .eq 21, 3) := by decide +kernel
theorem dX5_keepOnly_32 : decode cX5_keepOnly 32 = .ok (.aload_n 0, 1) := by decide +kernel
theorem dX5_keepOnly_33 : decode cX5_keepOnly 33 = .ok (.getfield 34, 3) := by decide +kernel
theorem dX5_keepOnly_36 : decode cX5_keepOnly 36 = .ok (.aload_n 0, 1) := by decide +kernel
theorem dX5_keepOnly_37 : decode cX5_keepOnly 37 = .ok (.dup, 1) := by decide +kernel
theorem dX5_keepOnly_38 : decode cX5_keepOnly 38 = .ok (.getfield 9, 3) := by decide +kernel
theorem dX5_keepOnly_41 : decode cX5_keepOnly 41 = .ok (.dup_x1, 1) := by decide +kernel
theorem dX5_keepOnly_42 : decode cX5_keepOnly 42 = .ok (.iconst 1, 1) := by decide +kernel
theorem dX5_keepOnly_43 : decode cX5_keepOnly 43 = .ok (.iadd, 1) := by decide +kernel
theorem dX5_keepOnly_44 : decode cX5_keepOnly 44 = .ok (.putfield 9, 3) := by decide +kernel
theorem dX5_keepOnly_47 : decode cX5_keepOnly 47 = .ok (.iload 4, 2) := by decide +kernel
theorem dX5_keepOnly_49 : decode cX5_keepOnly 49 = .ok (.iastore, 1) := by decide +kernel
theorem dX5_keepOnly_50 : decode cX5_keepOnly 50 = .ok (.iinc 3 1, 3) := by decide +kernel
theorem dX5_keepOnly_53 : decode cX5_keepOnly 53 = .ok (.goto (-46), 3) := by decide +kernel
theorem dX5_keepOnly_56 : decode cX5_keepOnly 56 = .ok (.return_, 1) := by decide +kernel
theorem dX5_lineUp_0 : decode cX5_lineUp 0 = .ok (.iconst 0, 1) := by decide +kernel
theorem dX5_lineUp_1 : decode cX5_lineUp 1 = .ok (.istore_n 1, 1) := by decide +kernel
theorem dX5_lineUp_2 : decode cX5_lineUp 2 = .ok (.iload_n 1, 1) := by decide +kernel
theorem dX5_lineUp_3 : decode cX5_lineUp 3 = .ok (.aload_n 0, 1) := by decide +kernel
theorem dX5_lineUp_4 : decode cX5_lineUp 4 = .ok (.getfield 9, 3) := by decide +kernel
theorem dX5_lineUp_7 : decode cX5_lineUp 7 = .ok (.if_icmp .ge 16, 3) := by decide +kernel
theorem dX5_lineUp_10 : decode cX5_lineUp 10 = .ok (.aload_n 0, 1) := by decide +kernel
theorem dX5_lineUp_11 : decode cX5_lineUp 11 = .ok (.getfield 34, 3) := by decide +kernel
theorem dX5_lineUp_14 : decode cX5_lineUp 14 = .ok (.iload_n 1, 1) := by decide +kernel
theorem dX5_lineUp_15 : decode cX5_lineUp 15 = .ok (.iload_n 1, 1) := by decide +kernel
theorem dX5_lineUp_16 : decode cX5_lineUp 16 = .ok (.iastore, 1) := by decide +kernel
theorem dX5_lineUp_17 : decode cX5_lineUp 17 = .ok (.iinc 1 1, 3) := by decide +kernel
theorem dX5_lineUp_20 : decode cX5_lineUp 20 = .ok (.goto (-18), 3) := by decide +kernel
theorem dX5_lineUp_23 : decode cX5_lineUp 23 = .ok (.return_, 1) := by decide +kernel
theorem dX5_orderNext_0 : decode cX5_orderNext 0 = .ok (.aload_n 0, 1) := by decide +kernel
theorem dX5_orderNext_1 : decode cX5_orderNext 1 = .ok (.getfield 9, 3) := by decide +kernel
theorem dX5_orderNext_4 : decode cX5_orderNext 4 = .ok (.iconst 2, 1) := by decide +kernel
theorem dX5_orderNext_5 : decode cX5_orderNext 5 = .ok (.isub, 1) := by decide +kernel
theorem dX5_orderNext_6 : decode cX5_orderNext 6 = .ok (.istore_n 1, 1) := by decide +kernel
theorem dX5_orderNext_7 : decode cX5_orderNext 7 = .ok (.iload_n 1, 1) := by decide +kernel
theorem dX5_orderNext_8 : decode cX5_orderNext 8 = .ok (.ifCond .lt 26, 3) := by decide +kernel
theorem dX5_orderNext_11 : decode cX5_orderNext 11 = .ok (.aload_n 0, 1) := by decide +kernel
theorem dX5_orderNext_12 : decode cX5_orderNext 12 = .ok (.getfield 34, 3) := by decide +kernel
theorem dX5_orderNext_15 : decode cX5_orderNext 15 = .ok (.iload_n 1, 1) := by decide +kernel
theorem dX5_orderNext_16 : decode cX5_orderNext 16 = .ok (.iaload, 1) := by decide +kernel
theorem dX5_orderNext_17 : decode cX5_orderNext 17 = .ok (.aload_n 0, 1) := by decide +kernel
theorem dX5_orderNext_18 : decode cX5_orderNext 18 = .ok (.getfield 34, 3) := by decide +kernel
theorem dX5_orderNext_21 : decode cX5_orderNext 21 = .ok (.iload_n 1, 1) := by decide +kernel
theorem dX5_orderNext_22 : decode cX5_orderNext 22 = .ok (.iconst 1, 1) := by decide +kernel
theorem dX5_orderNext_23 : decode cX5_orderNext 23 = .ok (.iadd, 1) := by decide +kernel
theorem dX5_orderNext_24 : decode cX5_orderNext 24 = .ok (.iaload, 1) := by decide +kernel
theorem dX5_orderNext_25 : decode cX5_orderNext 25 = .ok (.if_icmp .le 9, 3) := by decide +kernel
theorem dX5_orderNext_28 : decode cX5_orderNext 28 = .ok (.iinc 1 (-1), 3) := by decide +kernel
theorem dX5_orderNext_31 : decode cX5_orderNext 31 = .ok (.goto (-24), 3) := by decide +kernel
theorem dX5_orderNext_34 : decode cX5_orderNext 34 = .ok (.iload_n 1, 1) := by decide +kernel
theorem dX5_orderNext_35 : decode cX5_orderNext 35 = .ok (.ifCond .ge 5, 3) := by decide +kernel
theorem dX5_orderNext_38 : decode cX5_orderNext 38 = .ok (.iconst 0, 1) := by decide +kernel
theorem dX5_orderNext_39 : decode cX5_orderNext 39 = .ok (.ireturn, 1) := by decide +kernel
theorem dX5_orderNext_40 : decode cX5_orderNext 40 = .ok (.aload_n 0, 1) := by decide +kernel
theorem dX5_orderNext_41 : decode cX5_orderNext 41 = .ok (.getfield 9, 3) := by decide +kernel
theorem dX5_orderNext_44 : decode cX5_orderNext 44 = .ok (.iconst 1, 1) := by decide +kernel
theorem dX5_orderNext_45 : decode cX5_orderNext 45 = .ok (.isub, 1) := by decide +kernel
theorem dX5_orderNext_46 : decode cX5_orderNext 46 = .ok (.istore_n 2, 1) := by decide +kernel
theorem dX5_orderNext_47 : decode cX5_orderNext 47 = .ok (.iload_n 2, 1) := by decide +kernel
theorem dX5_orderNext_48 : decode cX5_orderNext 48 = .ok (.iload_n 1, 1) := by decide +kernel
theorem dX5_orderNext_49 : decode cX5_orderNext 49 = .ok (.if_icmp .le 24, 3) := by decide +kernel
theorem dX5_orderNext_52 : decode cX5_orderNext 52 = .ok (.aload_n 0, 1) := by decide +kernel
theorem dX5_orderNext_53 : decode cX5_orderNext 53 = .ok (.getfield 34, 3) := by decide +kernel
theorem dX5_orderNext_56 : decode cX5_orderNext 56 = .ok (.iload_n 2, 1) := by decide +kernel
theorem dX5_orderNext_57 : decode cX5_orderNext 57 = .ok (.iaload, 1) := by decide +kernel
theorem dX5_orderNext_58 : decode cX5_orderNext 58 = .ok (.aload_n 0, 1) := by decide +kernel
theorem dX5_orderNext_59 : decode cX5_orderNext 59 = .ok (.getfield 34, 3) := by decide +kernel
theorem dX5_orderNext_62 : decode cX5_orderNext 62 = .ok (.iload_n 1, 1) := by decide +kernel
theorem dX5_orderNext_63 : decode cX5_orderNext 63 = .ok (.iaload, 1) := by decide +kernel
theorem dX5_orderNext_64 : decode cX5_orderNext 64 = .ok (.if_icmp .ge 9, 3) := by decide +kernel
theorem dX5_orderNext_67 : decode cX5_orderNext 67 = .ok (.iinc 2 (-1), 3) := by decide +kernel
theorem dX5_orderNext_70 : decode cX5_orderNext 70 = .ok (.goto (-23), 3) := by decide +kernel
theorem dX5_orderNext_73 : decode cX5_orderNext 73 = .ok (.aload_n 0, 1) := by decide +kernel
theorem dX5_orderNext_74 : decode cX5_orderNext 74 = .ok (.iload_n 1, 1) := by decide +kernel
theorem dX5_orderNext_75 : decode cX5_orderNext 75 = .ok (.iload_n 2, 1) := by decide +kernel
theorem dX5_orderNext_76 : decode cX5_orderNext 76 = .ok (.invokevirtual 88, 3) := by decide +kernel
theorem dX5_orderNext_79 : decode cX5_orderNext 79 = .ok (.iload_n 1, 1) := by decide +kernel
theorem dX5_orderNext_80 : decode cX5_orderNext 80 = .ok (.iconst 1, 1) := by decide +kernel
theorem dX5_orderNext_81 : decode cX5_orderNext 81 = .ok (.iadd, 1) := by decide +kernel
theorem dX5_orderNext_82 : decode cX5_orderNext 82 = .ok (.istore_n 3, 1) := by decide +kernel
theorem dX5_orderNext_83 : decode cX5_orderNext 83 = .ok (.aload_n 0, 1) := by decide +kernel
theorem dX5_orderNext_84 : decode cX5_orderNext 84 = .ok (.getfield 9, 3) := by decide +kernel
theorem dX5_orderNext_87 : decode cX5_orderNext 87 = .ok (.iconst 1, 1) := by decide +kernel
theorem dX5_orderNext_88 : decode cX5_orderNext 88 = .ok (.isub, 1) := by decide +kernel
theorem dX5_orderNext_89 : decode cX5_orderNext 89 = .ok (.istore 4, 2) := by decide +kernel
theorem dX5_orderNext_91 : decode cX5_orderNext 91 = .ok (.iload_n 3, 1) := by decide +kernel
theorem dX5_orderNext_92 : decode cX5_orderNext 92 = .ok (.iload 4, 2) := by decide +kernel
theorem dX5_orderNext_94 : decode cX5_orderNext 94 = .ok (.if_icmp .ge 19, 3) := by decide +kernel
theorem dX5_orderNext_97 : decode cX5_orderNext 97 = .ok (.aload_n 0, 1) := by decide +kernel
theorem dX5_orderNext_98 : decode cX5_orderNext 98 = .ok (.iload_n 3, 1) := by decide +kernel
theorem dX5_orderNext_99 : decode cX5_orderNext 99 = .ok (.iinc 3 1, 3) := by decide +kernel
theorem dX5_orderNext_102 : decode cX5_orderNext 102 = .ok (.iload 4, 2) := by decide +kernel
theorem dX5_orderNext_104 : decode cX5_orderNext 104 = .ok (.iinc 4 (-1), 3) := by decide +kernel
theorem dX5_orderNext_107 : decode cX5_orderNext 107 = .ok (.invokevirtual 88, 3) := by decide +kernel
theorem dX5_orderNext_110 : decode cX5_orderNext 110 = .ok (.goto (-19), 3) := by decide +kernel
theorem dX5_orderNext_113 : decode cX5_orderNext 113 = .ok (.iconst 1, 1) := by decide +kernel
theorem dX5_orderNext_114 : decode cX5_orderNext 114 = .ok (.ireturn, 1) := by decide +kernel
theorem dX6_init_0 : decode cX6_init 0 = .ok (.aload_n 0, 1) := by decide +kernel
theorem dX6_init_1 : decode cX6_init 1 = .ok (.invokespecial 1, 3) := by decide +kernel
theorem dX6_init_4 : decode cX6_init 4 = .ok (.aload_n 0, 1) := by decide +kernel
theorem dX6_init_5 : decode cX6_init 5 = .ok (.new 7, 3) := by decide +kernel
theorem dX6_init_8 : decode cX6_init 8 = .ok (.dup, 1) := by decide +kernel
theorem dX6_init_9 : decode cX6_init 9 = .ok (.invokespecial 9, 3) := by decide +kernel
theorem dX6_init_12 : decode cX6_init 12 = .ok (.putfield 10, 3) := by decide +kernel
theorem dX6_init_15 : decode cX6_init 15 = .ok (.aload_n 0, 1) := by decide +kernel
theorem dX6_init_16 : decode cX6_init 16 = .ok (.new 16, 3) := by decide +kernel
theorem dX6_init_19 : decode cX6_init 19 = .ok (.dup, 1) := by decide +kernel
theorem dX6_init_20 : decode cX6_init 20 = .ok (.invokespecial 18, 3) := by decide +kernel
theorem dX6_init_23 : decode cX6_init 23 = .ok (.putfield 19, 3) := by decide +kernel
theorem dX6_init_26 : decode cX6_init 26 = .ok (.aload_n 0, 1) := by decide +kernel
theorem dX6_init_27 : decode cX6_init 27 = .ok (.new 23, 3) := by decide +kernel
theorem dX6_init_30 : decode cX6_init 30 = .ok (.dup, 1) := by decide +kernel
theorem dX6_init_31 : decode cX6_init 31 = .ok (.invokespecial 25, 3) := by decide +kernel
theorem dX6_init_34 : decode cX6_init 34 = .ok (.putfield 26, 3) := by decide +kernel
theorem dX6_init_37 : decode cX6_init 37 = .ok (.aload_n 0, 1) := by decide +kernel
theorem dX6_init_38 : decode cX6_init 38 = .ok (.new 23, 3) := by decide +kernel
theorem dX6_init_41 : decode cX6_init 41 = .ok (.dup, 1) := by decide +kernel
theorem dX6_init_42 : decode cX6_init 42 = .ok (.invokespecial 25, 3) := by decide +kernel
theorem dX6_init_45 : decode cX6_init 45 = .ok (.putfield 30, 3) := by decide +kernel
theorem dX6_init_48 : decode cX6_init 48 = .ok (.aload_n 0, 1) := by decide +kernel
theorem dX6_init_49 : decode cX6_init 49 = .ok (.new 23, 3) := by decide +kernel
theorem dX6_init_52 : decode cX6_init 52 = .ok (.dup, 1) := by decide +kernel
theorem dX6_init_53 : decode cX6_init 53 = .ok (.invokespecial 25, 3) := by decide +kernel
theorem dX6_init_56 : decode cX6_init 56 = .ok (.putfield 33, 3) := by decide +kernel
theorem dX6_init_59 : decode cX6_init 59 = .ok (.aload_n 0, 1) := by decide +kernel
theorem dX6_init_60 : decode cX6_init 60 = .ok (.new 36, 3) := by decide +kernel
theorem dX6_init_63 : decode cX6_init 63 = .ok (.dup, 1) := by decide +kernel
theorem dX6_init_64 : decode cX6_init 64 = .ok (.invokespecial 38, 3) := by decide +kernel
theorem dX6_init_67 : decode cX6_init 67 = .ok (.putfield 39, 3) := by decide +kernel
theorem dX6_init_70 : decode cX6_init 70 = .ok (.aload_n 0, 1) := by decide +kernel
theorem dX6_init_71 : decode cX6_init 71 = .ok (.new 43, 3) := by decide +kernel
theorem dX6_init_74 : decode cX6_init 74 = .ok (.dup, 1) := by decide +kernel
theorem dX6_init_75 : decode cX6_init 75 = .ok (.invokespecial 45, 3) := by decide +kernel
theorem dX6_init_78 : decode cX6_init 78 = .ok (.putfield 46, 3) := by decide +kernel
theorem dX6_init_81 : decode cX6_init 81 = .ok (.aload_n 0, 1) := by decide +kernel
theorem dX6_init_82 : decode cX6_init 82 = .ok (.new 50, 3) := by decide +kernel
theorem dX6_init_85 : decode cX6_init 85 = .ok (.dup, 1) := by decide +kernel
theorem dX6_init_86 : decode cX6_init 86 = .ok (.invokespecial 52, 3) := by decide +kernel
theorem dX6_init_89 : decode cX6_init 89 = .ok (.putfield 53, 3) := by decide +kernel
theorem dX6_init_92 : decode cX6_init 92 = .ok (.aload_n 0, 1) := by decide +kernel
theorem dX6_init_93 : decode cX6_init 93 = .ok (.iconst 0, 1) := by decide +kernel
theorem dX6_init_94 : decode cX6_init 94 = .ok (.putfield 57, 3) := by decide +kernel
theorem dX6_init_97 : decode cX6_init 97 = .ok (.return_, 1) := by decide +kernel
theorem dX6_row_0 : decode cX6_row 0 = .ok (.aload_n 0, 1) := by decide +kernel
theorem dX6_row_1 : decode cX6_row 1 = .ok (.iload_n 1, 1) := by decide +kernel
theorem dX6_row_2 : decode cX6_row 2 = .ok (.invokevirtual 61, 3) := by decide +kernel
theorem dX6_row_5 : decode cX6_row 5 = .ok (.ifCond .ne 18, 3) := by decide +kernel
theorem dX6_row_8 : decode cX6_row 8 = .ok (.iload_n 2, 1) := by decide +kernel
theorem dX6_row_9 : decode cX6_row 9 = .ok (.ifCond .lt 14, 3) := by decide +kernel
theorem dX6_row_12 : decode cX6_row 12 = .ok (.iload_n 2, 1) := by decide +kernel
theorem dX6_row_13 : decode cX6_row 13 = .ok (.iconst 3, 1) := by decide +kernel
theorem dX6_row_14 : decode cX6_row 14 = .ok (.if_icmp .ge 9, 3) := by decide +kernel
theorem dX6_row_17 : decode cX6_row 17 = .ok (.iload_n 3, 1) := by decide +kernel
theorem dX6_row_18 : decode cX6_row 18 = .ok (.bipush 40, 2) := by decide +kernel
theorem dX6_row_20 : decode cX6_row 20 = .ok (.if_icmp .le 6, 3) := by decide +kernel
theorem dX6_row_23 : decode cX6_row 23 = .ok (.ldc 65, 2) := by decide +kernel
theorem dX6_row_25 : decode cX6_row 25 = .ok (.ireturn, 1) := by decide +kernel
theorem dX6_row_26 : decode cX6_row 26 = .ok (.iload_n 3, 1) := by decide +kernel
theorem dX6_row_27 : decode cX6_row 27 = .ok (.ifCond .ge 9, 3) := by decide +kernel
theorem dX6_row_30 : decode cX6_row 30 = .ok (.aload_n 0, 1) := by decide +kernel
theorem dX6_row_31 : decode cX6_row 31 = .ok (.iconst 4, 1) := by decide +kernel
theorem dX6_row_32 : decode cX6_row 32 = .ok (.invokevirtual 66, 3) := by decide +kernel
theorem dX6_row_35 : decode cX6_row 35 = .ok (.ireturn, 1) := by decide +kernel
theorem dX6_row_36 : decode cX6_row 36 = .ok (.aload_n 0, 1) := by decide +kernel
theorem dX6_row_37 : decode cX6_row 37 = .ok (.getfield 10, 3) := by decide +kernel
theorem dX6_row_40 : decode cX6_row 40 = .ok (.iload_n 1, 1) := by decide +kernel
theorem dX6_row_41 : decode cX6_row 41 = .ok (.iload_n 2, 1) := by decide +kernel
theorem dX6_row_42 : decode cX6_row 42 = .ok (.iload_n 3, 1) := by decide +kernel
theorem dX6_row_43 : decode cX6_row 43 = .ok (.invokevirtual 70, 3) := by decide +kernel
theorem dX6_row_46 : decode cX6_row 46 = .ok (.aload_n 0, 1) := by decide +kernel
theorem dX6_row_47 : decode cX6_row 47 = .ok (.iload_n 3, 1) := by decide +kernel
theorem dX6_row_48 : decode cX6_row 48 = .ok (.invokevirtual 74, 3) := by decide +kernel
theorem dX6_row_51 : decode cX6_row 51 = .ok (.ireturn, 1) := by decide +kernel
theorem dX6_set_0 : decode cX6_set 0 = .ok (.aload_n 0, 1) := by decide +kernel
theorem dX6_set_1 : decode cX6_set 1 = .ok (.iload_n 1, 1) := by decide +kernel
theorem dX6_set_2 : decode cX6_set 2 = .ok (.invokevirtual 61, 3) := by decide +kernel
theorem dX6_set_5 : decode cX6_set 5 = .ok (.ifCond .eq 6, 3) := by decide +kernel
theorem dX6_set_8 : decode cX6_set 8 = .ok (.ldc 65, 2) := by decide +kernel
theorem dX6_set_10 : decode cX6_set 10 = .ok (.ireturn, 1) := by decide +kernel
theorem dX6_set_11 : decode cX6_set 11 = .ok (.aload_n 0, 1) := by decide +kernel
theorem dX6_set_12 : decode cX6_set 12 = .ok (.getfield 10, 3) := by decide +kernel
theorem dX6_set_15 : decode cX6_set 15 = .ok (.iload_n 1, 1) := by decide +kernel
theorem dX6_set_16 : decode cX6_set 16 = .ok (.invokevirtual 77, 3) := by decide +kernel
theorem dX6_set_19 : decode cX6_set 19 = .ok (.ifCond .eq 9, 3) := by decide +kernel
theorem dX6_set_22 : decode cX6_set 22 = .ok (.aload_n 0, 1) := by decide +kernel
theorem dX6_set_23 : decode cX6_set 23 = .ok (.iconst 1, 1) := by decide +kernel
theorem dX6_set_24 : decode cX6_set 24 = .ok (.invokevirtual 66, 3) := by decide +kernel
theorem dX6_set_27 : decode cX6_set 27 = .ok (.ireturn, 1) := by decide +kernel
theorem dX6_set_28 : decode cX6_set 28 = .ok (.aload_n 0, 1) := by decide +kernel
theorem dX6_set_29 : decode cX6_set 29 = .ok (.getfield 10, 3) := by decide +kernel
theorem dX6_set_32 : decode cX6_set 32 = .ok (.iload_n 1, 1) := by decide +kernel
theorem dX6_set_33 : decode cX6_set 33 = .ok (.iload_n 2, 1) := by decide +kernel
theorem dX6_set_34 : decode cX6_set 34 = .ok (.iconst 1, 1) := by decide +kernel
theorem dX6_set_35 : decode cX6_set 35 = .ok (.invokevirtual 80, 3) := by decide +kernel
theorem dX6_set_38 : decode cX6_set 38 = .ok (.ifCond .eq 9, 3) := by decide +kernel
theorem dX6_set_41 : decode cX6_set 41 = .ok (.aload_n 0, 1) := by decide +kernel
theorem dX6_set_42 : decode cX6_set 42 = .ok (.iconst 2, 1) := by decide +kernel
theorem dX6_set_43 : decode cX6_set 43 = .ok (.invokevirtual 66, 3) := by decide +kernel
theorem dX6_set_46 : decode cX6_set 46 = .ok (.ireturn, 1) := by decide +kernel
theorem dX6_set_47 : decode cX6_set 47 = .ok (.aload_n 0, 1) := by decide +kernel
theorem dX6_set_48 : decode cX6_set 48 = .ok (.aload_n 0, 1) := by decide +kernel
theorem dX6_set_49 : decode cX6_set 49 = .ok (.getfield 10, 3) := by decide +kernel
theorem dX6_set_52 : decode cX6_set 52 = .ok (.iload_n 1, 1) := by decide +kernel
theorem dX6_set_53 : decode cX6_set 53 = .ok (.iload_n 2, 1) := by decide +kernel
theorem dX6_set_54 : decode cX6_set 54 = .ok (.iload_n 3, 1) := by decide +kernel
theorem dX6_set_55 : decode cX6_set 55 = .ok (.invokevirtual 84, 3) := by decide +kernel
theorem dX6_set_58 : decode cX6_set 58 = .ok (.invokevirtual 74, 3) := by decide +kernel
theorem dX6_set_61 : decode cX6_set 61 = .ok (.ireturn, 1) := by decide +kernel
theorem dX6_copy_0 : decode cX6_copy 0 = .ok (.aload_n 0, 1) := by decide +kernel
theorem dX6_copy_1 : decode cX6_copy 1 = .ok (.iload_n 1, 1) := by decide +kernel
theorem dX6_copy_2 : decode cX6_copy 2 = .ok (.invokevirtual 61, 3) := by decide +kernel
theorem dX6_copy_5 : decode cX6_copy 5 = .ok (.ifCond .ne 11, 3) := by decide +kernel
theorem dX6_copy_8 : decode cX6_copy 8 = .ok (.aload_n 0, 1) := by decide +kernel
theorem dX6_copy_9 : decode cX6_copy 9 = .ok (.iload_n 3, 1) := by decide +kernel
theorem dX6_copy_10 : decode cX6_copy 10 = .ok (.invokevirtual 61, 3) := by decide +kernel
theorem dX6_copy_13 : decode cX6_copy 13 = .ok (.ifCond .eq 6, 3) := by decide +kernel
theorem dX6_copy_16 : decode cX6_copy 16 = .ok (.ldc 65, 2) := by decide +kernel
theorem dX6_copy_18 : decode cX6_copy 18 = .ok (.ireturn, 1) := by decide +kernel
theorem dX6_copy_19 : decode cX6_copy 19 = .ok (.aload_n 0, 1) := by decide +kernel
theorem dX6_copy_20 : decode cX6_copy 20 = .ok (.getfield 10, 3) := by decide +kernel
theorem dX6_copy_23 : decode cX6_copy 23 = .ok (.iload_n 1, 1) := by decide +kernel
theorem dX6_copy_24 : decode cX6_copy 24 = .ok (.invokevirtual 77, 3) := by decide +kernel
theorem dX6_copy_27 : decode cX6_copy 27 = .ok (.ifCond .ne 14, 3) := by decide +kernel
theorem dX6_copy_30 : decode cX6_copy 30 = .ok (.aload_n 0, 1) := by decide +kernel
theorem dX6_copy_31 : decode cX6_copy 31 = .ok (.getfield 10, 3) := by decide +kernel
theorem dX6_copy_34 : decode cX6_copy 34 = .ok (.iload_n 3, 1) := by decide +kernel
theorem dX6_copy_35 : decode cX6_copy 35 = .ok (.invokevirtual 77, 3) := by decide +kernel
theorem dX6_copy_38 : decode cX6_copy 38 = .ok (.ifCond .eq 9, 3) := by decide +kernel
theorem dX6_copy_41 : decode cX6_copy 41 = .ok (.aload_n 0, 1) := by decide +kernel
theorem dX6_copy_42 : decode cX6_copy 42 = .ok (.iconst 1, 1) := by decide +kernel
theorem dX6_copy_43 : decode cX6_copy 43 = .ok (.invokevirtual 66, 3) := by decide +kernel
theorem dX6_copy_46 : decode cX6_copy 46 = .ok (.ireturn, 1) := by decide +kernel
theorem dX6_copy_47 : decode cX6_copy 47 = .ok (.aload_n 0, 1) := by decide +kernel
theorem dX6_copy_48 : decode cX6_copy 48 = .ok (.getfield 10, 3) := by decide +kernel
theorem dX6_copy_51 : decode cX6_copy 51 = .ok (.getfield 88, 3) := by decide +kernel
theorem dX6_copy_54 : decode cX6_copy 54 = .ok (.iload_n 1, 1) := by decide +kernel
theorem dX6_copy_55 : decode cX6_copy 55 = .ok (.iaload, 1) := by decide +kernel
theorem dX6_copy_56 : decode cX6_copy 56 = .ok (.aload_n 0, 1) := by decide +kernel
theorem dX6_copy_57 : decode cX6_copy 57 = .ok (.getfield 10, 3) := by decide +kernel
theorem dX6_copy_60 : decode cX6_copy 60 = .ok (.getfield 88, 3) := by decide +kernel
theorem dX6_copy_63 : decode cX6_copy 63 = .ok (.iload_n 3, 1) := by decide +kernel
theorem dX6_copy_64 : decode cX6_copy 64 = .ok (.iaload, 1) := by decide +kernel
theorem dX6_copy_65 : decode cX6_copy 65 = .ok (.if_icmp .eq 9, 3) := by decide +kernel
theorem dX6_copy_68 : decode cX6_copy 68 = .ok (.aload_n 0, 1) := by decide +kernel
theorem dX6_copy_69 : decode cX6_copy 69 = .ok (.iconst 5, 1) := by decide +kernel
theorem dX6_copy_70 : decode cX6_copy 70 = .ok (.invokevirtual 66, 3) := by decide +kernel
theorem dX6_copy_73 : decode cX6_copy 73 = .ok (.ireturn, 1) := by decide +kernel
theorem dX6_copy_74 : decode cX6_copy 74 = .ok (.aload_n 0, 1) := by decide +kernel
theorem dX6_copy_75 : decode cX6_copy 75 = .ok (.getfield 10, 3) := by decide +kernel
theorem dX6_copy_78 : decode cX6_copy 78 = .ok (.iload_n 1, 1) := by decide +kernel
theorem dX6_copy_79 : decode cX6_copy 79 = .ok (.iload_n 2, 1) := by decide +kernel
theorem dX6_copy_80 : decode cX6_copy 80 = .ok (.iload 5, 2) := by decide +kernel
theorem dX6_copy_82 : decode cX6_copy 82 = .ok (.invokevirtual 80, 3) := by decide +kernel
theorem dX6_copy_85 : decode cX6_copy 85 = .ok (.ifCond .ne 18, 3) := by decide +kernel
theorem dX6_copy_88 : decode cX6_copy 88 = .ok (.aload_n 0, 1) := by decide +kernel
theorem dX6_copy_89 : decode cX6_copy 89 = .ok (.getfield 10, 3) := by decide +kernel
theorem dX6_copy_92 : decode cX6_copy 92 = .ok (.iload_n 3, 1) := by decide +kernel
theorem dX6_copy_93 : decode cX6_copy 93 = .ok (.iload 4, 2) := by decide +kernel
theorem dX6_copy_95 : decode cX6_copy 95 = .ok (.iload 5, 2) := by decide +kernel
theorem dX6_copy_97 : decode cX6_copy 97 = .ok (.invokevirtual 80, 3) := by decide +kernel
theorem dX6_copy_100 : decode cX6_copy 100 = .ok (.ifCond .eq 9, 3) := by decide +kernel
theorem dX6_copy_103 : decode cX6_copy 103 = .ok (.aload_n 0, 1) := by decide +kernel
theorem dX6_copy_104 : decode cX6_copy 104 = .ok (.iconst 2, 1) := by decide +kernel
theorem dX6_copy_105 : decode cX6_copy 105 = .ok (.invokevirtual 66, 3) := by decide +kernel
theorem dX6_copy_108 : decode cX6_copy 108 = .ok (.ireturn, 1) := by decide +kernel
theorem dX6_copy_109 : decode cX6_copy 109 = .ok (.aload_n 0, 1) := by decide +kernel
theorem dX6_copy_110 : decode cX6_copy 110 = .ok (.getfield 10, 3) := by decide +kernel
theorem dX6_copy_113 : decode cX6_copy 113 = .ok (.iload_n 1, 1) := by decide +kernel
theorem dX6_copy_114 : decode cX6_copy 114 = .ok (.iload_n 2, 1) := by decide +kernel
theorem dX6_copy_115 : decode cX6_copy 115 = .ok (.iload_n 3, 1) := by decide +kernel
theorem dX6_copy_116 : decode cX6_copy 116 = .ok (.iload 4, 2) := by decide +kernel
theorem dX6_copy_118 : decode cX6_copy 118 = .ok (.iload 5, 2) := by decide +kernel
theorem dX6_copy_120 : decode cX6_copy 120 = .ok (.invokevirtual 92, 3) := by decide +kernel
theorem dX6_copy_123 : decode cX6_copy 123 = .ok (.aload_n 0, 1) := by decide +kernel
theorem dX6_copy_124 : decode cX6_copy 124 = .ok (.iload 5, 2) := by decide +kernel
theorem dX6_copy_126 : decode cX6_copy 126 = .ok (.invokevirtual 74, 3) := by decide +kernel
theorem dX6_copy_129 : decode cX6_copy 129 = .ok (.ireturn, 1) := by decide +kernel
theorem dX6_drop_0 : decode cX6_drop 0 = .ok (.aload_n 0, 1) := by decide +kernel
theorem dX6_drop_1 : decode cX6_drop 1 = .ok (.iload_n 1, 1) := by decide +kernel
theorem dX6_drop_2 : decode cX6_drop 2 = .ok (.invokevirtual 61, 3) := by decide +kernel
theorem dX6_drop_5 : decode cX6_drop 5 = .ok (.ifCond .eq 6, 3) := by decide +kernel
theorem dX6_drop_8 : decode cX6_drop 8 = .ok (.ldc 65, 2) := by decide +kernel
theorem dX6_drop_10 : decode cX6_drop 10 = .ok (.ireturn, 1) := by decide +kernel
theorem dX6_drop_11 : decode cX6_drop 11 = .ok (.aload_n 0, 1) := by decide +kernel
theorem dX6_drop_12 : decode cX6_drop 12 = .ok (.getfield 10, 3) := by decide +kernel
theorem dX6_drop_15 : decode cX6_drop 15 = .ok (.iload_n 1, 1) := by decide +kernel
theorem dX6_drop_16 : decode cX6_drop 16 = .ok (.invokevirtual 77, 3) := by decide +kernel
theorem dX6_drop_19 : decode cX6_drop 19 = .ok (.ifCond .eq 9, 3) := by decide +kernel
theorem dX6_drop_22 : decode cX6_drop 22 = .ok (.aload_n 0, 1) := by decide +kernel
theorem dX6_drop_23 : decode cX6_drop 23 = .ok (.iconst 1, 1) := by decide +kernel
theorem dX6_drop_24 : decode cX6_drop 24 = .ok (.invokevirtual 66, 3) := by decide +kernel
theorem dX6_drop_27 : decode cX6_drop 27 = .ok (.ireturn, 1) := by decide +kernel
theorem dX6_drop_28 : decode cX6_drop 28 = .ok (.aload_n 0, 1) := by decide +kernel
theorem dX6_drop_29 : decode cX6_drop 29 = .ok (.aload_n 0, 1) := by decide +kernel
theorem dX6_drop_30 : decode cX6_drop 30 = .ok (.getfield 10, 3) := by decide +kernel
theorem dX6_drop_33 : decode cX6_drop 33 = .ok (.iload_n 1, 1) := by decide +kernel
theorem dX6_drop_34 : decode cX6_drop 34 = .ok (.invokevirtual 96, 3) := by decide +kernel
theorem dX6_drop_37 : decode cX6_drop 37 = .ok (.invokevirtual 74, 3) := by decide +kernel
theorem dX6_drop_40 : decode cX6_drop 40 = .ok (.ireturn, 1) := by decide +kernel
theorem dX6_feed_0 : decode cX6_feed 0 = .ok (.iload_n 1, 1) := by decide +kernel
theorem dX6_feed_1 : decode cX6_feed 1 = .ok (.ifCond .lt 10, 3) := by decide +kernel
theorem dX6_feed_4 : decode cX6_feed 4 = .ok (.iload_n 1, 1) := by decide +kernel
theorem dX6_feed_5 : decode cX6_feed 5 = .ok (.sipush 255, 3) := by decide +kernel
theorem dX6_feed_8 : decode cX6_feed 8 = .ok (.if_icmp .le 6, 3) := by decide +kernel
theorem dX6_feed_11 : decode cX6_feed 11 = .ok (.ldc 65, 2) := by decide +kernel
theorem dX6_feed_13 : decode cX6_feed 13 = .ok (.ireturn, 1) := by decide +kernel
theorem dX6_feed_14 : decode cX6_feed 14 = .ok (.aload_n 0, 1) := by decide +kernel
theorem dX6_feed_15 : decode cX6_feed 15 = .ok (.getfield 19, 3) := by decide +kernel
theorem dX6_feed_18 : decode cX6_feed 18 = .ok (.getfield 99, 3) := by decide +kernel
theorem dX6_feed_21 : decode cX6_feed 21 = .ok (.bipush 100, 2) := by decide +kernel
theorem dX6_feed_23 : decode cX6_feed 23 = .ok (.if_icmp .lt 6, 3) := by decide +kernel
theorem dX6_feed_26 : decode cX6_feed 26 = .ok (.ldc 102, 2) := by decide +kernel
theorem dX6_feed_28 : decode cX6_feed 28 = .ok (.ireturn, 1) := by decide +kernel
theorem dX6_feed_29 : decode cX6_feed 29 = .ok (.aload_n 0, 1) := by decide +kernel
theorem dX6_feed_30 : decode cX6_feed 30 = .ok (.getfield 19, 3) := by decide +kernel
theorem dX6_feed_33 : decode cX6_feed 33 = .ok (.iload_n 1, 1) := by decide +kernel
theorem dX6_feed_34 : decode cX6_feed 34 = .ok (.invokevirtual 103, 3) := by decide +kernel
theorem dX6_feed_37 : decode cX6_feed 37 = .ok (.aload_n 0, 1) := by decide +kernel
theorem dX6_feed_38 : decode cX6_feed 38 = .ok (.getfield 19, 3) := by decide +kernel
theorem dX6_feed_41 : decode cX6_feed 41 = .ok (.getfield 99, 3) := by decide +kernel
theorem dX6_feed_44 : decode cX6_feed 44 = .ok (.ireturn, 1) := by decide +kernel
theorem dX6_square_0 : decode cX6_square 0 = .ok (.aload_n 0, 1) := by decide +kernel
theorem dX6_square_1 : decode cX6_square 1 = .ok (.getfield 46, 3) := by decide +kernel
theorem dX6_square_4 : decode cX6_square 4 = .ok (.getfield 107, 3) := by decide +kernel
theorem dX6_square_7 : decode cX6_square 7 = .ok (.astore_n 1, 1) := by decide +kernel
theorem dX6_square_8 : decode cX6_square 8 = .ok (.aload_n 0, 1) := by decide +kernel
theorem dX6_square_9 : decode cX6_square 9 = .ok (.getfield 19, 3) := by decide +kernel
theorem dX6_square_12 : decode cX6_square 12 = .ok (.aload_n 1, 1) := by decide +kernel
theorem dX6_square_13 : decode cX6_square 13 = .ok (.invokevirtual 110, 3) := by decide +kernel
theorem dX6_square_16 : decode cX6_square 16 = .ok (.ifCond .ne 14, 3) := by decide +kernel
theorem dX6_square_19 : decode cX6_square 19 = .ok (.ldc 114, 2) := by decide +kernel
theorem dX6_square_21 : decode cX6_square 21 = .ok (.aload_n 0, 1) := by decide +kernel
theorem dX6_square_22 : decode cX6_square 22 = .ok (.getfield 19, 3) := by decide +kernel
theorem dX6_square_25 : decode cX6_square 25 = .ok (.getfield 115, 3) := by decide +kernel
theorem dX6_square_28 : decode cX6_square 28 = .ok (.isub, 1) := by decide +kernel
theorem dX6_square_29 : decode cX6_square 29 = .ok (.ireturn, 1) := by decide +kernel
theorem dX6_square_30 : decode cX6_square 30 = .ok (.aload_n 0, 1) := by decide +kernel
theorem dX6_square_31 : decode cX6_square 31 = .ok (.getfield 26, 3) := by decide +kernel
theorem dX6_square_34 : decode cX6_square 34 = .ok (.aload_n 1, 1) := by decide +kernel
theorem dX6_square_35 : decode cX6_square 35 = .ok (.invokevirtual 118, 3) := by decide +kernel
theorem dX6_square_38 : decode cX6_square 38 = .ok (.aload_n 0, 1) := by decide +kernel
theorem dX6_square_39 : decode cX6_square 39 = .ok (.getfield 39, 3) := by decide +kernel
theorem dX6_square_42 : decode cX6_square 42 = .ok (.invokevirtual 122, 3) := by decide +kernel
theorem dX6_square_45 : decode cX6_square 45 = .ok (.aload_n 0, 1) := by decide +kernel
theorem dX6_square_46 : decode cX6_square 46 = .ok (.getfield 26, 3) := by decide +kernel
theorem dX6_square_49 : decode cX6_square 49 = .ok (.getfield 125, 3) := by decide +kernel
theorem dX6_square_52 : decode cX6_square 52 = .ok (.ireturn, 1) := by decide +kernel
theorem dX6_fault_0 : decode cX6_fault 0 = .ok (.aload_n 0, 1) := by decide +kernel
theorem dX6_fault_1 : decode cX6_fault 1 = .ok (.getfield 19, 3) := by decide +kernel
theorem dX6_fault_4 : decode cX6_fault 4 = .ok (.getfield 128, 3) := by decide +kernel
theorem dX6_fault_7 : decode cX6_fault 7 = .ok (.ireturn, 1) := by decide +kernel
theorem dX6_steps_0 : decode cX6_steps 0 = .ok (.aload_n 0, 1) := by decide +kernel
theorem dX6_steps_1 : decode cX6_steps 1 = .ok (.invokevirtual 131, 3) := by decide +kernel
theorem dX6_steps_4 : decode cX6_steps 4 = .ok (.ifCond .eq 6, 3) := by decide +kernel
theorem dX6_steps_7 : decode cX6_steps 7 = .ok (.ldc 135, 2) := by decide +kernel
theorem dX6_steps_9 : decode cX6_steps 9 = .ok (.ireturn, 1) := by decide +kernel
theorem dX6_steps_10 : decode cX6_steps 10 = .ok (.iload_n 1, 1) := by decide +kernel
theorem dX6_steps_11 : decode cX6_steps 11 = .ok (.iconst 1, 1) := by decide +kernel
theorem dX6_steps_12 : decode cX6_steps 12 = .ok (.if_icmp .lt 9, 3) := by decide +kernel
theorem dX6_steps_15 : decode cX6_steps 15 = .ok (.iload_n 1, 1) := by decide +kernel
theorem dX6_steps_16 : decode cX6_steps 16 = .ok (.bipush 24, 2) := by decide +kernel
theorem dX6_steps_18 : decode cX6_steps 18 = .ok (.if_icmp .le 6, 3) := by decide +kernel
theorem dX6_steps_21 : decode cX6_steps 21 = .ok (.ldc 65, 2) := by decide +kernel
theorem dX6_steps_23 : decode cX6_steps 23 = .ok (.ireturn, 1) := by decide +kernel
theorem dX6_steps_24 : decode cX6_steps 24 = .ok (.aload_n 0, 1) := by decide +kernel
theorem dX6_steps_25 : decode cX6_steps 25 = .ok (.getfield 26, 3) := by decide +kernel
theorem dX6_steps_28 : decode cX6_steps 28 = .ok (.getfield 136, 3) := by decide +kernel
theorem dX6_steps_31 : decode cX6_steps 31 = .ok (.sipush 9999, 3) := by decide +kernel
theorem dX6_steps_34 : decode cX6_steps 34 = .ok (.iload_n 1, 1) := by decide +kernel
theorem dX6_steps_35 : decode cX6_steps 35 = .ok (.isub, 1) := by decide +kernel
theorem dX6_steps_36 : decode cX6_steps 36 = .ok (.if_icmp .le 6, 3) := by decide +kernel
theorem dX6_steps_39 : decode cX6_steps 39 = .ok (.ldc 102, 2) := by decide +kernel
theorem dX6_steps_41 : decode cX6_steps 41 = .ok (.ireturn, 1) := by decide +kernel
theorem dX6_steps_42 : decode cX6_steps 42 = .ok (.iconst 0, 1) := by decide +kernel
theorem dX6_steps_43 : decode cX6_steps 43 = .ok (.istore_n 2, 1) := by decide +kernel
theorem dX6_steps_44 : decode cX6_steps 44 = .ok (.iload_n 2, 1) := by decide +kernel
theorem dX6_steps_45 : decode cX6_steps 45 = .ok (.iload_n 1, 1) := by decide +kernel
theorem dX6_steps_46 : decode cX6_steps 46 = .ok (.if_icmp .ge 29, 3) := by decide +kernel
theorem dX6_steps_49 : decode cX6_steps 49 = .ok (.aload_n 0, 1) := by decide +kernel
theorem dX6_steps_50 : decode cX6_steps 50 = .ok (.getfield 39, 3) := by decide +kernel
theorem dX6_steps_53 : decode cX6_steps 53 = .ok (.aload_n 0, 1) := by decide +kernel
theorem dX6_steps_54 : decode cX6_steps 54 = .ok (.getfield 26, 3) := by decide +kernel
theorem dX6_steps_57 : decode cX6_steps 57 = .ok (.invokevirtual 139, 3) := by decide +kernel
theorem dX6_steps_60 : decode cX6_steps 60 = .ok (.aload_n 0, 1) := by decide +kernel
theorem dX6_steps_61 : decode cX6_steps 61 = .ok (.getfield 26, 3) := by decide +kernel
theorem dX6_steps_64 : decode cX6_steps 64 = .ok (.bipush 31, 2) := by decide +kernel
theorem dX6_steps_66 : decode cX6_steps 66 = .ok (.invokevirtual 142, 3) := by decide +kernel
theorem dX6_steps_69 : decode cX6_steps 69 = .ok (.iinc 2 1, 3) := by decide +kernel
theorem dX6_steps_72 : decode cX6_steps 72 = .ok (.goto (-28), 3) := by decide +kernel
theorem dX6_steps_75 : decode cX6_steps 75 = .ok (.aload_n 0, 1) := by decide +kernel
theorem dX6_steps_76 : decode cX6_steps 76 = .ok (.getfield 26, 3) := by decide +kernel
theorem dX6_steps_79 : decode cX6_steps 79 = .ok (.getfield 145, 3) := by decide +kernel
theorem dX6_steps_82 : decode cX6_steps 82 = .ok (.ireturn, 1) := by decide +kernel
theorem dX6_change_0 : decode cX6_change 0 = .ok (.iload_n 1, 1) := by decide +kernel
theorem dX6_change_1 : decode cX6_change 1 = .ok (.ifCond .lt 14, 3) := by decide +kernel
theorem dX6_change_4 : decode cX6_change 4 = .ok (.iload_n 1, 1) := by decide +kernel
theorem dX6_change_5 : decode cX6_change 5 = .ok (.aload_n 0, 1) := by decide +kernel
theorem dX6_change_6 : decode cX6_change 6 = .ok (.getfield 26, 3) := by decide +kernel
theorem dX6_change_9 : decode cX6_change 9 = .ok (.getfield 148, 3) := by decide +kernel
theorem dX6_change_12 : decode cX6_change 12 = .ok (.if_icmp .lt 6, 3) := by decide +kernel
theorem dX6_change_15 : decode cX6_change 15 = .ok (.ldc 65, 2) := by decide +kernel
theorem dX6_change_17 : decode cX6_change 17 = .ok (.ireturn, 1) := by decide +kernel
theorem dX6_change_18 : decode cX6_change 18 = .ok (.iload_n 1, 1) := by decide +kernel
theorem dX6_change_19 : decode cX6_change 19 = .ok (.aload_n 0, 1) := by decide +kernel
theorem dX6_change_20 : decode cX6_change 20 = .ok (.getfield 26, 3) := by decide +kernel
theorem dX6_change_23 : decode cX6_change 23 = .ok (.getfield 148, 3) := by decide +kernel
theorem dX6_change_26 : decode cX6_change 26 = .ok (.iconst 1, 1) := by decide +kernel
theorem dX6_change_27 : decode cX6_change 27 = .ok (.isub, 1) := by decide +kernel
theorem dX6_change_28 : decode cX6_change 28 = .ok (.if_icmp .ne 6, 3) := by decide +kernel
theorem dX6_change_31 : decode cX6_change 31 = .ok (.ldc 135, 2) := by decide +kernel
theorem dX6_change_33 : decode cX6_change 33 = .ok (.ireturn, 1) := by decide +kernel
theorem dX6_change_34 : decode cX6_change 34 = .ok (.aload_n 0, 1) := by decide +kernel
theorem dX6_change_35 : decode cX6_change 35 = .ok (.getfield 39, 3) := by decide +kernel
theorem dX6_change_38 : decode cX6_change 38 = .ok (.aload_n 0, 1) := by decide +kernel
theorem dX6_change_39 : decode cX6_change 39 = .ok (.getfield 26, 3) := by decide +kernel
theorem dX6_change_42 : decode cX6_change 42 = .ok (.invokevirtual 139, 3) := by decide +kernel
theorem dX6_change_45 : decode cX6_change 45 = .ok (.aload_n 0, 1) := by decide +kernel
theorem dX6_change_46 : decode cX6_change 46 = .ok (.getfield 26, 3) := by decide +kernel
theorem dX6_change_49 : decode cX6_change 49 = .ok (.iload_n 1, 1) := by decide +kernel
theorem dX6_change_50 : decode cX6_change 50 = .ok (.iload_n 1, 1) := by decide +kernel
theorem dX6_change_51 : decode cX6_change 51 = .ok (.iconst 1, 1) := by decide +kernel
theorem dX6_change_52 : decode cX6_change 52 = .ok (.iadd, 1) := by decide +kernel
theorem dX6_change_53 : decode cX6_change 53 = .ok (.invokevirtual 151, 3) := by decide +kernel
theorem dX6_change_56 : decode cX6_change 56 = .ok (.aload_n 0, 1) := by decide +kernel
theorem dX6_change_57 : decode cX6_change 57 = .ok (.getfield 26, 3) := by decide +kernel
theorem dX6_change_60 : decode cX6_change 60 = .ok (.getfield 155, 3) := by decide +kernel
theorem dX6_change_63 : decode cX6_change 63 = .ok (.iload_n 1, 1) := by decide +kernel
theorem dX6_change_64 : decode cX6_change 64 = .ok (.iaload, 1) := by decide +kernel
theorem dX6_change_65 : decode cX6_change 65 = .ok (.ireturn, 1) := by decide +kernel
theorem dX6_wind_0 : decode cX6_wind 0 = .ok (.aload_n 0, 1) := by decide +kernel
theorem dX6_wind_1 : decode cX6_wind 1 = .ok (.invokevirtual 131, 3) := by decide +kernel
theorem dX6_wind_4 : decode cX6_wind 4 = .ok (.ifCond .eq 6, 3) := by decide +kernel
theorem dX6_wind_7 : decode cX6_wind 7 = .ok (.ldc 135, 2) := by decide +kernel
theorem dX6_wind_9 : decode cX6_wind 9 = .ok (.ireturn, 1) := by decide +kernel
theorem dX6_wind_10 : decode cX6_wind 10 = .ok (.iload_n 1, 1) := by decide +kernel
theorem dX6_wind_11 : decode cX6_wind 11 = .ok (.ifCond .lt 9, 3) := by decide +kernel
theorem dX6_wind_14 : decode cX6_wind 14 = .ok (.iload_n 1, 1) := by decide +kernel
theorem dX6_wind_15 : decode cX6_wind 15 = .ok (.bipush 10, 2) := by decide +kernel
theorem dX6_wind_17 : decode cX6_wind 17 = .ok (.if_icmp .lt 6, 3) := by decide +kernel
theorem dX6_wind_20 : decode cX6_wind 20 = .ok (.ldc 65, 2) := by decide +kernel
theorem dX6_wind_22 : decode cX6_wind 22 = .ok (.ireturn, 1) := by decide +kernel
theorem dX6_wind_23 : decode cX6_wind 23 = .ok (.aload_n 0, 1) := by decide +kernel
theorem dX6_wind_24 : decode cX6_wind 24 = .ok (.getfield 39, 3) := by decide +kernel
theorem dX6_wind_27 : decode cX6_wind 27 = .ok (.aload_n 0, 1) := by decide +kernel
theorem dX6_wind_28 : decode cX6_wind 28 = .ok (.getfield 26, 3) := by decide +kernel
theorem dX6_wind_31 : decode cX6_wind 31 = .ok (.invokevirtual 139, 3) := by decide +kernel
theorem dX6_wind_34 : decode cX6_wind 34 = .ok (.aload_n 0, 1) := by decide +kernel
theorem dX6_wind_35 : decode cX6_wind 35 = .ok (.getfield 26, 3) := by decide +kernel
theorem dX6_wind_38 : decode cX6_wind 38 = .ok (.getfield 158, 3) := by decide +kernel
theorem dX6_wind_41 : decode cX6_wind 41 = .ok (.istore_n 2, 1) := by decide +kernel
theorem dX6_wind_42 : decode cX6_wind 42 = .ok (.aload_n 0, 1) := by decide +kernel
theorem dX6_wind_43 : decode cX6_wind 43 = .ok (.getfield 26, 3) := by decide +kernel
theorem dX6_wind_46 : decode cX6_wind 46 = .ok (.iload_n 1, 1) := by decide +kernel
theorem dX6_wind_47 : decode cX6_wind 47 = .ok (.putfield 158, 3) := by decide +kernel
theorem dX6_wind_50 : decode cX6_wind 50 = .ok (.iload_n 2, 1) := by decide +kernel
theorem dX6_wind_51 : decode cX6_wind 51 = .ok (.ireturn, 1) := by decide +kernel
theorem dX6_cough_0 : decode cX6_cough 0 = .ok (.aload_n 0, 1) := by decide +kernel
theorem dX6_cough_1 : decode cX6_cough 1 = .ok (.iload_n 1, 1) := by decide +kernel
theorem dX6_cough_2 : decode cX6_cough 2 = .ok (.invokevirtual 161, 3) := by decide +kernel
theorem dX6_cough_5 : decode cX6_cough 5 = .ok (.ifCond .eq 6, 3) := by decide +kernel
theorem dX6_cough_8 : decode cX6_cough 8 = .ok (.ldc 65, 2) := by decide +kernel
theorem dX6_cough_10 : decode cX6_cough 10 = .ok (.ireturn, 1) := by decide +kernel
theorem dX6_cough_11 : decode cX6_cough 11 = .ok (.aload_n 0, 1) := by decide +kernel
theorem dX6_cough_12 : decode cX6_cough 12 = .ok (.getfield 39, 3) := by decide +kernel
theorem dX6_cough_15 : decode cX6_cough 15 = .ok (.aload_n 0, 1) := by decide +kernel
theorem dX6_cough_16 : decode cX6_cough 16 = .ok (.getfield 26, 3) := by decide +kernel
theorem dX6_cough_19 : decode cX6_cough 19 = .ok (.invokevirtual 139, 3) := by decide +kernel
theorem dX6_cough_22 : decode cX6_cough 22 = .ok (.aload_n 0, 1) := by decide +kernel
theorem dX6_cough_23 : decode cX6_cough 23 = .ok (.getfield 26, 3) := by decide +kernel
theorem dX6_cough_26 : decode cX6_cough 26 = .ok (.getfield 164, 3) := by decide +kernel
theorem dX6_cough_29 : decode cX6_cough 29 = .ok (.iload_n 1, 1) := by decide +kernel
theorem dX6_cough_30 : decode cX6_cough 30 = .ok (.iaload, 1) := by decide +kernel
theorem dX6_cough_31 : decode cX6_cough 31 = .ok (.istore_n 2, 1) := by decide +kernel
theorem dX6_cough_32 : decode cX6_cough 32 = .ok (.aload_n 0, 1) := by decide +kernel
theorem dX6_cough_33 : decode cX6_cough 33 = .ok (.getfield 26, 3) := by decide +kernel
theorem dX6_cough_36 : decode cX6_cough 36 = .ok (.iload_n 1, 1) := by decide +kernel
theorem dX6_cough_37 : decode cX6_cough 37 = .ok (.invokevirtual 167, 3) := by decide +kernel
theorem dX6_cough_40 : decode cX6_cough 40 = .ok (.aload_n 0, 1) := by decide +kernel
theorem dX6_cough_41 : decode cX6_cough 41 = .ok (.getfield 26, 3) := by decide +kernel
theorem dX6_cough_44 : decode cX6_cough 44 = .ok (.iload_n 1, 1) := by decide +kernel
theorem dX6_cough_45 : decode cX6_cough 45 = .ok (.invokevirtual 170, 3) := by decide +kernel
theorem dX6_cough_48 : decode cX6_cough 48 = .ok (.iload_n 2, 1) := by decide +kernel
theorem dX6_cough_49 : decode cX6_cough 49 = .ok (.ireturn, 1) := by decide +kernel
theorem dX6_undo_0 : decode cX6_undo 0 = .ok (.aload_n 0, 1) := by decide +kernel
theorem dX6_undo_1 : decode cX6_undo 1 = .ok (.getfield 39, 3) := by decide +kernel
theorem dX6_undo_4 : decode cX6_undo 4 = .ok (.getfield 173, 3) := by decide +kernel
theorem dX6_undo_7 : decode cX6_undo 7 = .ok (.ifCond .ne 6, 3) := by decide +kernel
theorem dX6_undo_10 : decode cX6_undo 10 = .ok (.ldc 135, 2) := by decide +kernel
theorem dX6_undo_12 : decode cX6_undo 12 = .ok (.ireturn, 1) := by decide +kernel
theorem dX6_undo_13 : decode cX6_undo 13 = .ok (.aload_n 0, 1) := by decide +kernel
theorem dX6_undo_14 : decode cX6_undo 14 = .ok (.getfield 39, 3) := by decide +kernel
theorem dX6_undo_17 : decode cX6_undo 17 = .ok (.aload_n 0, 1) := by decide +kernel
theorem dX6_undo_18 : decode cX6_undo 18 = .ok (.getfield 26, 3) := by decide +kernel
theorem dX6_undo_21 : decode cX6_undo 21 = .ok (.invokevirtual 176, 3) := by decide +kernel
theorem dX6_undo_24 : decode cX6_undo 24 = .ok (.aload_n 0, 1) := by decide +kernel
theorem dX6_undo_25 : decode cX6_undo 25 = .ok (.getfield 39, 3) := by decide +kernel
theorem dX6_undo_28 : decode cX6_undo 28 = .ok (.getfield 173, 3) := by decide +kernel
theorem dX6_undo_31 : decode cX6_undo 31 = .ok (.ireturn, 1) := by decide +kernel
theorem dX6_sleeper_0 : decode cX6_sleeper 0 = .ok (.aload_n 0, 1) := by decide +kernel
theorem dX6_sleeper_1 : decode cX6_sleeper 1 = .ok (.iload_n 1, 1) := by decide +kernel
theorem dX6_sleeper_2 : decode cX6_sleeper 2 = .ok (.invokevirtual 161, 3) := by decide +kernel
theorem dX6_sleeper_5 : decode cX6_sleeper 5 = .ok (.ifCond .eq 6, 3) := by decide +kernel
theorem dX6_sleeper_8 : decode cX6_sleeper 8 = .ok (.ldc 65, 2) := by decide +kernel
theorem dX6_sleeper_10 : decode cX6_sleeper 10 = .ok (.ireturn, 1) := by decide +kernel
theorem dX6_sleeper_11 : decode cX6_sleeper 11 = .ok (.iload_n 2, 1) := by decide +kernel
theorem dX6_sleeper_12 : decode cX6_sleeper 12 = .ok (.tableswitch 92 0 4 #[36, 46, 56, 66, 83], 36) := by decide +kernel
theorem dX6_sleeper_48 : decode cX6_sleeper 48 = .ok (.aload_n 0, 1) := by decide +kernel
theorem dX6_sleeper_49 : decode cX6_sleeper 49 = .ok (.getfield 26, 3) := by decide +kernel
theorem dX6_sleeper_52 : decode cX6_sleeper 52 = .ok (.getfield 179, 3) := by decide +kernel
theorem dX6_sleeper_55 : decode cX6_sleeper 55 = .ok (.iload_n 1, 1) := by decide +kernel
theorem dX6_sleeper_56 : decode cX6_sleeper 56 = .ok (.iaload, 1) := by decide +kernel
theorem dX6_sleeper_57 : decode cX6_sleeper 57 = .ok (.ireturn, 1) := by decide +kernel
theorem dX6_sleeper_58 : decode cX6_sleeper 58 = .ok (.aload_n 0, 1) := by decide +kernel
theorem dX6_sleeper_59 : decode cX6_sleeper 59 = .ok (.getfield 26, 3) := by decide +kernel
theorem dX6_sleeper_62 : decode cX6_sleeper 62 = .ok (.getfield 182, 3) := by decide +kernel
theorem dX6_sleeper_65 : decode cX6_sleeper 65 = .ok (.iload_n 1, 1) := by decide +kernel
theorem dX6_sleeper_66 : decode cX6_sleeper 66 = .ok (.iaload, 1) := by decide +kernel
theorem dX6_sleeper_67 : decode cX6_sleeper 67 = .ok (.ireturn, 1) := by decide +kernel
theorem dX6_sleeper_68 : decode cX6_sleeper 68 = .ok (.aload_n 0, 1) := by decide +kernel
theorem dX6_sleeper_69 : decode cX6_sleeper 69 = .ok (.getfield 26, 3) := by decide +kernel
theorem dX6_sleeper_72 : decode cX6_sleeper 72 = .ok (.getfield 164, 3) := by decide +kernel
theorem dX6_sleeper_75 : decode cX6_sleeper 75 = .ok (.iload_n 1, 1) := by decide +kernel
theorem dX6_sleeper_76 : decode cX6_sleeper 76 = .ok (.iaload, 1) := by decide +kernel
theorem dX6_sleeper_77 : decode cX6_sleeper 77 = .ok (.ireturn, 1) := by decide +kernel
theorem dX6_sleeper_78 : decode cX6_sleeper 78 = .ok (.aload_n 0, 1) := by decide +kernel
theorem dX6_sleeper_79 : decode cX6_sleeper 79 = .ok (.getfield 26, 3) := by decide +kernel
theorem dX6_sleeper_82 : decode cX6_sleeper 82 = .ok (.iload_n 1, 1) := by decide +kernel
theorem dX6_sleeper_83 : decode cX6_sleeper 83 = .ok (.invokevirtual 185, 3) := by decide +kernel
theorem dX6_sleeper_86 : decode cX6_sleeper 86 = .ok (.ifCond .eq 7, 3) := by decide +kernel
theorem dX6_sleeper_89 : decode cX6_sleeper 89 = .ok (.iconst 1, 1) := by decide +kernel
theorem dX6_sleeper_90 : decode cX6_sleeper 90 = .ok (.goto 4, 3) := by decide +kernel
theorem dX6_sleeper_93 : decode cX6_sleeper 93 = .ok (.iconst 0, 1) := by decide +kernel
theorem dX6_sleeper_94 : decode cX6_sleeper 94 = .ok (.ireturn, 1) := by decide +kernel
theorem dX6_sleeper_95 : decode cX6_sleeper 95 = .ok (.aload_n 0, 1) := by decide +kernel
theorem dX6_sleeper_96 : decode cX6_sleeper 96 = .ok (.getfield 26, 3) := by decide +kernel
theorem dX6_sleeper_99 : decode cX6_sleeper 99 = .ok (.iload_n 1, 1) := by decide +kernel
theorem dX6_sleeper_100 : decode cX6_sleeper 100 = .ok (.invokevirtual 188, 3) := by decide +kernel
theorem dX6_sleeper_103 : decode cX6_sleeper 103 = .ok (.ireturn, 1) := by decide +kernel
theorem dX6_sleeper_104 : decode cX6_sleeper 104 = .ok (.ldc 65, 2) := by decide +kernel
theorem dX6_sleeper_106 : decode cX6_sleeper 106 = .ok (.ireturn, 1) := by decide +kernel
theorem dX6_sheep_0 : decode cX6_sheep 0 = .ok (.iload_n 1, 1) := by decide +kernel
theorem dX6_sheep_1 : decode cX6_sheep 1 = .ok (.ifCond .lt 14, 3) := by decide +kernel
theorem dX6_sheep_4 : decode cX6_sheep 4 = .ok (.iload_n 1, 1) := by decide +kernel
theorem dX6_sheep_5 : decode cX6_sheep 5 = .ok (.aload_n 0, 1) := by decide +kernel
theorem dX6_sheep_6 : decode cX6_sheep 6 = .ok (.getfield 26, 3) := by decide +kernel
theorem dX6_sheep_9 : decode cX6_sheep 9 = .ok (.getfield 148, 3) := by decide +kernel
theorem dX6_sheep_12 : decode cX6_sheep 12 = .ok (.if_icmp .lt 6, 3) := by decide +kernel
theorem dX6_sheep_15 : decode cX6_sheep 15 = .ok (.ldc 65, 2) := by decide +kernel
theorem dX6_sheep_17 : decode cX6_sheep 17 = .ok (.ireturn, 1) := by decide +kernel
theorem dX6_sheep_18 : decode cX6_sheep 18 = .ok (.iload_n 2, 1) := by decide +kernel
theorem dX6_sheep_19 : decode cX6_sheep 19 = .ok (.tableswitch 54 0 2 #[25, 35, 45], 25) := by decide +kernel
theorem dX6_sheep_44 : decode cX6_sheep 44 = .ok (.aload_n 0, 1) := by decide +kernel
theorem dX6_sheep_45 : decode cX6_sheep 45 = .ok (.getfield 26, 3) := by decide +kernel
theorem dX6_sheep_48 : decode cX6_sheep 48 = .ok (.getfield 191, 3) := by decide +kernel
theorem dX6_sheep_51 : decode cX6_sheep 51 = .ok (.iload_n 1, 1) := by decide +kernel
theorem dX6_sheep_52 : decode cX6_sheep 52 = .ok (.iaload, 1) := by decide +kernel
theorem dX6_sheep_53 : decode cX6_sheep 53 = .ok (.ireturn, 1) := by decide +kernel
theorem dX6_sheep_54 : decode cX6_sheep 54 = .ok (.aload_n 0, 1) := by decide +kernel
theorem dX6_sheep_55 : decode cX6_sheep 55 = .ok (.getfield 26, 3) := by decide +kernel
theorem dX6_sheep_58 : decode cX6_sheep 58 = .ok (.getfield 194, 3) := by decide +kernel
theorem dX6_sheep_61 : decode cX6_sheep 61 = .ok (.iload_n 1, 1) := by decide +kernel
theorem dX6_sheep_62 : decode cX6_sheep 62 = .ok (.iaload, 1) := by decide +kernel
theorem dX6_sheep_63 : decode cX6_sheep 63 = .ok (.ireturn, 1) := by decide +kernel
theorem dX6_sheep_64 : decode cX6_sheep 64 = .ok (.aload_n 0, 1) := by decide +kernel
theorem dX6_sheep_65 : decode cX6_sheep 65 = .ok (.getfield 26, 3) := by decide +kernel
theorem dX6_sheep_68 : decode cX6_sheep 68 = .ok (.iload_n 1, 1) := by decide +kernel
theorem dX6_sheep_69 : decode cX6_sheep 69 = .ok (.invokevirtual 197, 3) := by decide +kernel
theorem dX6_sheep_72 : decode cX6_sheep 72 = .ok (.ireturn, 1) := by decide +kernel
theorem dX6_sheep_73 : decode cX6_sheep 73 = .ok (.ldc 65, 2) := by decide +kernel
theorem dX6_sheep_75 : decode cX6_sheep 75 = .ok (.ireturn, 1) := by decide +kernel
theorem dX6_off_0 : decode cX6_off 0 = .ok (.aload_n 0, 1) := by decide +kernel
theorem dX6_off_1 : decode cX6_off 1 = .ok (.invokevirtual 131, 3) := by decide +kernel
theorem dX6_off_4 : decode cX6_off 4 = .ok (.ifCond .eq 6, 3) := by decide +kernel
theorem dX6_off_7 : decode cX6_off 7 = .ok (.ldc 135, 2) := by decide +kernel
theorem dX6_off_9 : decode cX6_off 9 = .ok (.ireturn, 1) := by decide +kernel
theorem dX6_off_10 : decode cX6_off 10 = .ok (.aload_n 0, 1) := by decide +kernel
theorem dX6_off_11 : decode cX6_off 11 = .ok (.iload_n 1, 1) := by decide +kernel
theorem dX6_off_12 : decode cX6_off 12 = .ok (.invokevirtual 200, 3) := by decide +kernel
theorem dX6_off_15 : decode cX6_off 15 = .ok (.ifCond .eq 6, 3) := by decide +kernel
theorem dX6_off_18 : decode cX6_off 18 = .ok (.ldc 65, 2) := by decide +kernel
theorem dX6_off_20 : decode cX6_off 20 = .ok (.ireturn, 1) := by decide +kernel
theorem dX6_off_21 : decode cX6_off 21 = .ok (.aload_n 0, 1) := by decide +kernel
theorem dX6_off_22 : decode cX6_off 22 = .ok (.getfield 46, 3) := by decide +kernel
theorem dX6_off_25 : decode cX6_off 25 = .ok (.aload_n 0, 1) := by decide +kernel
theorem dX6_off_26 : decode cX6_off 26 = .ok (.getfield 26, 3) := by decide +kernel
theorem dX6_off_29 : decode cX6_off 29 = .ok (.invokevirtual 203, 3) := by decide +kernel
theorem dX6_off_32 : decode cX6_off 32 = .ok (.aload_n 0, 1) := by decide +kernel
theorem dX6_off_33 : decode cX6_off 33 = .ok (.getfield 46, 3) := by decide +kernel
theorem dX6_off_36 : decode cX6_off 36 = .ok (.iload_n 1, 1) := by decide +kernel
theorem dX6_off_37 : decode cX6_off 37 = .ok (.bipush 31, 2) := by decide +kernel
theorem dX6_off_39 : decode cX6_off 39 = .ok (.invokevirtual 206, 3) := by decide +kernel
theorem dX6_off_42 : decode cX6_off 42 = .ok (.aload_n 0, 1) := by decide +kernel
theorem dX6_off_43 : decode cX6_off 43 = .ok (.getfield 46, 3) := by decide +kernel
theorem dX6_off_46 : decode cX6_off 46 = .ok (.getfield 107, 3) := by decide +kernel
theorem dX6_off_49 : decode cX6_off 49 = .ok (.getfield 145, 3) := by decide +kernel
theorem dX6_off_52 : decode cX6_off 52 = .ok (.ireturn, 1) := by decide +kernel
theorem dX6_counted_0 : decode cX6_counted 0 = .ok (.aload_n 0, 1) := by decide +kernel
theorem dX6_counted_1 : decode cX6_counted 1 = .ok (.iload_n 1, 1) := by decide +kernel
theorem dX6_counted_2 : decode cX6_counted 2 = .ok (.invokevirtual 161, 3) := by decide +kernel
theorem dX6_counted_5 : decode cX6_counted 5 = .ok (.ifCond .ne 11, 3) := by decide +kernel
theorem dX6_counted_8 : decode cX6_counted 8 = .ok (.aload_n 0, 1) := by decide +kernel
theorem dX6_counted_9 : decode cX6_counted 9 = .ok (.iload_n 2, 1) := by decide +kernel
theorem dX6_counted_10 : decode cX6_counted 10 = .ok (.invokevirtual 200, 3) := by decide +kernel
theorem dX6_counted_13 : decode cX6_counted 13 = .ok (.ifCond .eq 6, 3) := by decide +kernel
theorem dX6_counted_16 : decode cX6_counted 16 = .ok (.ldc 65, 2) := by decide +kernel
theorem dX6_counted_18 : decode cX6_counted 18 = .ok (.ireturn, 1) := by decide +kernel
theorem dX6_counted_19 : decode cX6_counted 19 = .ok (.aload_n 0, 1) := by decide +kernel
theorem dX6_counted_20 : decode cX6_counted 20 = .ok (.getfield 46, 3) := by decide +kernel
theorem dX6_counted_23 : decode cX6_counted 23 = .ok (.aload_n 0, 1) := by decide +kernel
theorem dX6_counted_24 : decode cX6_counted 24 = .ok (.getfield 26, 3) := by decide +kernel
theorem dX6_counted_27 : decode cX6_counted 27 = .ok (.invokevirtual 203, 3) := by decide +kernel
theorem dX6_counted_30 : decode cX6_counted 30 = .ok (.aload_n 0, 1) := by decide +kernel
theorem dX6_counted_31 : decode cX6_counted 31 = .ok (.getfield 46, 3) := by decide +kernel
theorem dX6_counted_34 : decode cX6_counted 34 = .ok (.iload_n 2, 1) := by decide +kernel
theorem dX6_counted_35 : decode cX6_counted 35 = .ok (.iconst 1, 1) := by decide +kernel
theorem dX6_counted_36 : decode cX6_counted 36 = .ok (.iload_n 1, 1) := by decide +kernel
theorem dX6_counted_37 : decode cX6_counted 37 = .ok (.ishl, 1) := by decide +kernel
theorem dX6_counted_38 : decode cX6_counted 38 = .ok (.invokevirtual 206, 3) := by decide +kernel
theorem dX6_counted_41 : decode cX6_counted 41 = .ok (.aload_n 0, 1) := by decide +kernel
theorem dX6_counted_42 : decode cX6_counted 42 = .ok (.getfield 46, 3) := by decide +kernel
theorem dX6_counted_45 : decode cX6_counted 45 = .ok (.getfield 107, 3) := by decide +kernel
theorem dX6_counted_48 : decode cX6_counted 48 = .ok (.getfield 164, 3) := by decide +kernel
theorem dX6_counted_51 : decode cX6_counted 51 = .ok (.iload_n 1, 1) := by decide +kernel
theorem dX6_counted_52 : decode cX6_counted 52 = .ok (.iaload, 1) := by decide +kernel
theorem dX6_counted_53 : decode cX6_counted 53 = .ok (.ireturn, 1) := by decide +kernel
theorem dX6_when_0 : decode cX6_when 0 = .ok (.aload_n 0, 1) := by decide +kernel
theorem dX6_when_1 : decode cX6_when 1 = .ok (.iload_n 1, 1) := by decide +kernel
theorem dX6_when_2 : decode cX6_when 2 = .ok (.invokevirtual 161, 3) := by decide +kernel
theorem dX6_when_5 : decode cX6_when 5 = .ok (.ifCond .eq 6, 3) := by decide +kernel
theorem dX6_when_8 : decode cX6_when 8 = .ok (.ldc 65, 2) := by decide +kernel
theorem dX6_when_10 : decode cX6_when 10 = .ok (.ireturn, 1) := by decide +kernel
theorem dX6_when_11 : decode cX6_when 11 = .ok (.aload_n 0, 1) := by decide +kernel
theorem dX6_when_12 : decode cX6_when 12 = .ok (.getfield 46, 3) := by decide +kernel
theorem dX6_when_15 : decode cX6_when 15 = .ok (.aload_n 0, 1) := by decide +kernel
theorem dX6_when_16 : decode cX6_when 16 = .ok (.getfield 26, 3) := by decide +kernel
theorem dX6_when_19 : decode cX6_when 19 = .ok (.invokevirtual 203, 3) := by decide +kernel
theorem dX6_when_22 : decode cX6_when 22 = .ok (.aload_n 0, 1) := by decide +kernel
theorem dX6_when_23 : decode cX6_when 23 = .ok (.getfield 46, 3) := by decide +kernel
theorem dX6_when_26 : decode cX6_when 26 = .ok (.iconst 1, 1) := by decide +kernel
theorem dX6_when_27 : decode cX6_when 27 = .ok (.iload_n 1, 1) := by decide +kernel
theorem dX6_when_28 : decode cX6_when 28 = .ok (.ishl, 1) := by decide +kernel
theorem dX6_when_29 : decode cX6_when 29 = .ok (.bipush 99, 2) := by decide +kernel
theorem dX6_when_31 : decode cX6_when 31 = .ok (.invokevirtual 209, 3) := by decide +kernel
theorem dX6_when_34 : decode cX6_when 34 = .ok (.ireturn, 1) := by decide +kernel
theorem dX6_all_0 : decode cX6_all 0 = .ok (.aload_n 0, 1) := by decide +kernel
theorem dX6_all_1 : decode cX6_all 1 = .ok (.invokevirtual 131, 3) := by decide +kernel
theorem dX6_all_4 : decode cX6_all 4 = .ok (.ifCond .eq 6, 3) := by decide +kernel
theorem dX6_all_7 : decode cX6_all 7 = .ok (.ldc 135, 2) := by decide +kernel
theorem dX6_all_9 : decode cX6_all 9 = .ok (.ireturn, 1) := by decide +kernel
theorem dX6_all_10 : decode cX6_all 10 = .ok (.aload_n 0, 1) := by decide +kernel
theorem dX6_all_11 : decode cX6_all 11 = .ok (.iload_n 1, 1) := by decide +kernel
theorem dX6_all_12 : decode cX6_all 12 = .ok (.invokevirtual 213, 3) := by decide +kernel
theorem dX6_all_15 : decode cX6_all 15 = .ok (.ifCond .eq 6, 3) := by decide +kernel
theorem dX6_all_18 : decode cX6_all 18 = .ok (.ldc 65, 2) := by decide +kernel
theorem dX6_all_20 : decode cX6_all 20 = .ok (.ireturn, 1) := by decide +kernel
theorem dX6_all_21 : decode cX6_all 21 = .ok (.aload_n 0, 1) := by decide +kernel
theorem dX6_all_22 : decode cX6_all 22 = .ok (.getfield 46, 3) := by decide +kernel
theorem dX6_all_25 : decode cX6_all 25 = .ok (.aload_n 0, 1) := by decide +kernel
theorem dX6_all_26 : decode cX6_all 26 = .ok (.getfield 26, 3) := by decide +kernel
theorem dX6_all_29 : decode cX6_all 29 = .ok (.invokevirtual 203, 3) := by decide +kernel
theorem dX6_all_32 : decode cX6_all 32 = .ok (.aload_n 0, 1) := by decide +kernel
theorem dX6_all_33 : decode cX6_all 33 = .ok (.getfield 46, 3) := by decide +kernel
theorem dX6_all_36 : decode cX6_all 36 = .ok (.iload_n 1, 1) := by decide +kernel
theorem dX6_all_37 : decode cX6_all 37 = .ok (.bipush 99, 2) := by decide +kernel
theorem dX6_all_39 : decode cX6_all 39 = .ok (.invokevirtual 209, 3) := by decide +kernel
theorem dX6_all_42 : decode cX6_all 42 = .ok (.ireturn, 1) := by decide +kernel
theorem dX6_never_0 : decode cX6_never 0 = .ok (.aload_n 0, 1) := by decide +kernel
theorem dX6_never_1 : decode cX6_never 1 = .ok (.invokevirtual 131, 3) := by decide +kernel
theorem dX6_never_4 : decode cX6_never 4 = .ok (.ifCond .eq 6, 3) := by decide +kernel
theorem dX6_never_7 : decode cX6_never 7 = .ok (.ldc 135, 2) := by decide +kernel
theorem dX6_never_9 : decode cX6_never 9 = .ok (.ireturn, 1) := by decide +kernel
theorem dX6_never_10 : decode cX6_never 10 = .ok (.aload_n 0, 1) := by decide +kernel
theorem dX6_never_11 : decode cX6_never 11 = .ok (.getfield 46, 3) := by decide +kernel
theorem dX6_never_14 : decode cX6_never 14 = .ok (.aload_n 0, 1) := by decide +kernel
theorem dX6_never_15 : decode cX6_never 15 = .ok (.getfield 26, 3) := by decide +kernel
theorem dX6_never_18 : decode cX6_never 18 = .ok (.invokevirtual 203, 3) := by decide +kernel
theorem dX6_never_21 : decode cX6_never 21 = .ok (.aload_n 0, 1) := by decide +kernel
theorem dX6_never_22 : decode cX6_never 22 = .ok (.getfield 46, 3) := by decide +kernel
theorem dX6_never_25 : decode cX6_never 25 = .ok (.invokevirtual 216, 3) := by decide +kernel
theorem dX6_never_28 : decode cX6_never 28 = .ok (.ireturn, 1) := by decide +kernel
theorem dX6_quiet_0 : decode cX6_quiet 0 = .ok (.aload_n 0, 1) := by decide +kernel
theorem dX6_quiet_1 : decode cX6_quiet 1 = .ok (.invokevirtual 131, 3) := by decide +kernel
theorem dX6_quiet_4 : decode cX6_quiet 4 = .ok (.ifCond .eq 6, 3) := by decide +kernel
theorem dX6_quiet_7 : decode cX6_quiet 7 = .ok (.ldc 135, 2) := by decide +kernel
theorem dX6_quiet_9 : decode cX6_quiet 9 = .ok (.ireturn, 1) := by decide +kernel
theorem dX6_quiet_10 : decode cX6_quiet 10 = .ok (.iload_n 1, 1) := by decide +kernel
theorem dX6_quiet_11 : decode cX6_quiet 11 = .ok (.ifCond .lt 8, 3) := by decide +kernel
theorem dX6_quiet_14 : decode cX6_quiet 14 = .ok (.iload_n 1, 1) := by decide +kernel
theorem dX6_quiet_15 : decode cX6_quiet 15 = .ok (.iconst 5, 1) := by decide +kernel
theorem dX6_quiet_16 : decode cX6_quiet 16 = .ok (.if_icmp .le 6, 3) := by decide +kernel
theorem dX6_quiet_19 : decode cX6_quiet 19 = .ok (.ldc 65, 2) := by decide +kernel
theorem dX6_quiet_21 : decode cX6_quiet 21 = .ok (.ireturn, 1) := by decide +kernel
theorem dX6_quiet_22 : decode cX6_quiet 22 = .ok (.aload_n 0, 1) := by decide +kernel
theorem dX6_quiet_23 : decode cX6_quiet 23 = .ok (.getfield 46, 3) := by decide +kernel
theorem dX6_quiet_26 : decode cX6_quiet 26 = .ok (.aload_n 0, 1) := by decide +kernel
theorem dX6_quiet_27 : decode cX6_quiet 27 = .ok (.getfield 26, 3) := by decide +kernel
theorem dX6_quiet_30 : decode cX6_quiet 30 = .ok (.invokevirtual 203, 3) := by decide +kernel
theorem dX6_quiet_33 : decode cX6_quiet 33 = .ok (.aload_n 0, 1) := by decide +kernel
theorem dX6_quiet_34 : decode cX6_quiet 34 = .ok (.getfield 46, 3) := by decide +kernel
theorem dX6_quiet_37 : decode cX6_quiet 37 = .ok (.iload_n 1, 1) := by decide +kernel
theorem dX6_quiet_38 : decode cX6_quiet 38 = .ok (.invokevirtual 220, 3) := by decide +kernel
theorem dX6_quiet_41 : decode cX6_quiet 41 = .ok (.ireturn, 1) := by decide +kernel
theorem dX6_order_0 : decode cX6_order 0 = .ok (.aload_n 0, 1) := by decide +kernel
theorem dX6_order_1 : decode cX6_order 1 = .ok (.invokevirtual 131, 3) := by decide +kernel
theorem dX6_order_4 : decode cX6_order 4 = .ok (.ifCond .eq 6, 3) := by decide +kernel
theorem dX6_order_7 : decode cX6_order 7 = .ok (.ldc 135, 2) := by decide +kernel
theorem dX6_order_9 : decode cX6_order 9 = .ok (.ireturn, 1) := by decide +kernel
theorem dX6_order_10 : decode cX6_order 10 = .ok (.aload_n 0, 1) := by decide +kernel
theorem dX6_order_11 : decode cX6_order 11 = .ok (.iload_n 1, 1) := by decide +kernel
theorem dX6_order_12 : decode cX6_order 12 = .ok (.invokevirtual 213, 3) := by decide +kernel
theorem dX6_order_15 : decode cX6_order 15 = .ok (.ifCond .ne 14, 3) := by decide +kernel
theorem dX6_order_18 : decode cX6_order 18 = .ok (.iload_n 2, 1) := by decide +kernel
theorem dX6_order_19 : decode cX6_order 19 = .ok (.iconst (-1), 1) := by decide +kernel
theorem dX6_order_20 : decode cX6_order 20 = .ok (.if_icmp .lt 9, 3) := by decide +kernel
theorem dX6_order_23 : decode cX6_order 23 = .ok (.iload_n 2, 1) := by decide +kernel
theorem dX6_order_24 : decode cX6_order 24 = .ok (.bipush 6, 2) := by decide +kernel
theorem dX6_order_26 : decode cX6_order 26 = .ok (.if_icmp .lt 6, 3) := by decide +kernel
theorem dX6_order_29 : decode cX6_order 29 = .ok (.ldc 65, 2) := by decide +kernel
theorem dX6_order_31 : decode cX6_order 31 = .ok (.ireturn, 1) := by decide +kernel
theorem dX6_order_32 : decode cX6_order 32 = .ok (.aload_n 0, 1) := by decide +kernel
theorem dX6_order_33 : decode cX6_order 33 = .ok (.getfield 46, 3) := by decide +kernel
theorem dX6_order_36 : decode cX6_order 36 = .ok (.aload_n 0, 1) := by decide +kernel
theorem dX6_order_37 : decode cX6_order 37 = .ok (.getfield 26, 3) := by decide +kernel
theorem dX6_order_40 : decode cX6_order 40 = .ok (.iload_n 1, 1) := by decide +kernel
theorem dX6_order_41 : decode cX6_order 41 = .ok (.invokevirtual 223, 3) := by decide +kernel
theorem dX6_order_44 : decode cX6_order 44 = .ok (.istore_n 3, 1) := by decide +kernel
theorem dX6_order_45 : decode cX6_order 45 = .ok (.iload_n 3, 1) := by decide +kernel
theorem dX6_order_46 : decode cX6_order 46 = .ok (.ldc 227, 2) := by decide +kernel
theorem dX6_order_48 : decode cX6_order 48 = .ok (.if_icmp .eq 8, 3) := by decide +kernel
theorem dX6_order_51 : decode cX6_order 51 = .ok (.iload_n 2, 1) := by decide +kernel
theorem dX6_order_52 : decode cX6_order 52 = .ok (.iconst (-1), 1) := by decide +kernel
theorem dX6_order_53 : decode cX6_order 53 = .ok (.if_icmp .ne 5, 3) := by decide +kernel
theorem dX6_order_56 : decode cX6_order 56 = .ok (.iload_n 3, 1) := by decide +kernel
theorem dX6_order_57 : decode cX6_order 57 = .ok (.ireturn, 1) := by decide +kernel
theorem dX6_order_58 : decode cX6_order 58 = .ok (.iload_n 2, 1) := by decide +kernel
theorem dX6_order_59 : decode cX6_order 59 = .ok (.aload_n 0, 1) := by decide +kernel
theorem dX6_order_60 : decode cX6_order 60 = .ok (.getfield 26, 3) := by decide +kernel
theorem dX6_order_63 : decode cX6_order 63 = .ok (.getfield 148, 3) := by decide +kernel
theorem dX6_order_66 : decode cX6_order 66 = .ok (.if_icmp .ge 15, 3) := by decide +kernel
theorem dX6_order_69 : decode cX6_order 69 = .ok (.aload_n 0, 1) := by decide +kernel
theorem dX6_order_70 : decode cX6_order 70 = .ok (.getfield 46, 3) := by decide +kernel
theorem dX6_order_73 : decode cX6_order 73 = .ok (.getfield 228, 3) := by decide +kernel
theorem dX6_order_76 : decode cX6_order 76 = .ok (.iload_n 2, 1) := by decide +kernel
theorem dX6_order_77 : decode cX6_order 77 = .ok (.iaload, 1) := by decide +kernel
theorem dX6_order_78 : decode cX6_order 78 = .ok (.goto 5, 3) := by decide +kernel
theorem dX6_order_81 : decode cX6_order 81 = .ok (.ldc 227, 2) := by decide +kernel
theorem dX6_order_83 : decode cX6_order 83 = .ok (.ireturn, 1) := by decide +kernel
theorem dX6_fewest_0 : decode cX6_fewest 0 = .ok (.aload_n 0, 1) := by decide +kernel
theorem dX6_fewest_1 : decode cX6_fewest 1 = .ok (.invokevirtual 131, 3) := by decide +kernel
theorem dX6_fewest_4 : decode cX6_fewest 4 = .ok (.ifCond .eq 6, 3) := by decide +kernel
theorem dX6_fewest_7 : decode cX6_fewest 7 = .ok (.ldc 135, 2) := by decide +kernel
theorem dX6_fewest_9 : decode cX6_fewest 9 = .ok (.ireturn, 1) := by decide +kernel
theorem dX6_fewest_10 : decode cX6_fewest 10 = .ok (.aload_n 0, 1) := by decide +kernel
theorem dX6_fewest_11 : decode cX6_fewest 11 = .ok (.iload_n 1, 1) := by decide +kernel
theorem dX6_fewest_12 : decode cX6_fewest 12 = .ok (.invokevirtual 213, 3) := by decide +kernel
theorem dX6_fewest_15 : decode cX6_fewest 15 = .ok (.ifCond .ne 20, 3) := by decide +kernel
theorem dX6_fewest_18 : decode cX6_fewest 18 = .ok (.aload_n 0, 1) := by decide +kernel
theorem dX6_fewest_19 : decode cX6_fewest 19 = .ok (.iload_n 2, 1) := by decide +kernel
theorem dX6_fewest_20 : decode cX6_fewest 20 = .ok (.invokevirtual 200, 3) := by decide +kernel
theorem dX6_fewest_23 : decode cX6_fewest 23 = .ok (.ifCond .ne 12, 3) := by decide +kernel
theorem dX6_fewest_26 : decode cX6_fewest 26 = .ok (.iload_n 3, 1) := by decide +kernel
theorem dX6_fewest_27 : decode cX6_fewest 27 = .ok (.ifCond .lt 8, 3) := by decide +kernel
theorem dX6_fewest_30 : decode cX6_fewest 30 = .ok (.iload_n 3, 1) := by decide +kernel
theorem dX6_fewest_31 : decode cX6_fewest 31 = .ok (.iconst 1, 1) := by decide +kernel
theorem dX6_fewest_32 : decode cX6_fewest 32 = .ok (.if_icmp .le 6, 3) := by decide +kernel
theorem dX6_fewest_35 : decode cX6_fewest 35 = .ok (.ldc 65, 2) := by decide +kernel
theorem dX6_fewest_37 : decode cX6_fewest 37 = .ok (.ireturn, 1) := by decide +kernel
theorem dX6_fewest_38 : decode cX6_fewest 38 = .ok (.aload_n 0, 1) := by decide +kernel
theorem dX6_fewest_39 : decode cX6_fewest 39 = .ok (.getfield 46, 3) := by decide +kernel
theorem dX6_fewest_42 : decode cX6_fewest 42 = .ok (.aload_n 0, 1) := by decide +kernel
theorem dX6_fewest_43 : decode cX6_fewest 43 = .ok (.getfield 26, 3) := by decide +kernel
theorem dX6_fewest_46 : decode cX6_fewest 46 = .ok (.iload_n 1, 1) := by decide +kernel
theorem dX6_fewest_47 : decode cX6_fewest 47 = .ok (.iload_n 2, 1) := by decide +kernel
theorem dX6_fewest_48 : decode cX6_fewest 48 = .ok (.invokevirtual 231, 3) := by decide +kernel
theorem dX6_fewest_51 : decode cX6_fewest 51 = .ok (.istore 4, 2) := by decide +kernel
theorem dX6_fewest_53 : decode cX6_fewest 53 = .ok (.iload 4, 2) := by decide +kernel
theorem dX6_fewest_55 : decode cX6_fewest 55 = .ok (.ldc 227, 2) := by decide +kernel
theorem dX6_fewest_57 : decode cX6_fewest 57 = .ok (.if_icmp .eq 8, 3) := by decide +kernel
theorem dX6_fewest_60 : decode cX6_fewest 60 = .ok (.iload_n 3, 1) := by decide +kernel
theorem dX6_fewest_61 : decode cX6_fewest 61 = .ok (.iconst 1, 1) := by decide +kernel
theorem dX6_fewest_62 : decode cX6_fewest 62 = .ok (.if_icmp .ne 6, 3) := by decide +kernel
theorem dX6_fewest_65 : decode cX6_fewest 65 = .ok (.iload 4, 2) := by decide +kernel
theorem dX6_fewest_67 : decode cX6_fewest 67 = .ok (.ireturn, 1) := by decide +kernel
theorem dX6_fewest_68 : decode cX6_fewest 68 = .ok (.iload 4, 2) := by decide +kernel
theorem dX6_fewest_70 : decode cX6_fewest 70 = .ok (.invokestatic 235, 3) := by decide +kernel
theorem dX6_fewest_73 : decode cX6_fewest 73 = .ok (.ireturn, 1) := by decide +kernel
theorem dX6_missing_0 : decode cX6_missing 0 = .ok (.aload_n 0, 1) := by decide +kernel
theorem dX6_missing_1 : decode cX6_missing 1 = .ok (.invokevirtual 131, 3) := by decide +kernel
theorem dX6_missing_4 : decode cX6_missing 4 = .ok (.ifCond .eq 6, 3) := by decide +kernel
theorem dX6_missing_7 : decode cX6_missing 7 = .ok (.ldc 135, 2) := by decide +kernel
theorem dX6_missing_9 : decode cX6_missing 9 = .ok (.ireturn, 1) := by decide +kernel
theorem dX6_missing_10 : decode cX6_missing 10 = .ok (.aload_n 0, 1) := by decide +kernel
theorem dX6_missing_11 : decode cX6_missing 11 = .ok (.iload_n 1, 1) := by decide +kernel
theorem dX6_missing_12 : decode cX6_missing 12 = .ok (.invokevirtual 61, 3) := by decide +kernel
theorem dX6_missing_15 : decode cX6_missing 15 = .ok (.ifCond .ne 14, 3) := by decide +kernel
theorem dX6_missing_18 : decode cX6_missing 18 = .ok (.iload_n 3, 1) := by decide +kernel
theorem dX6_missing_19 : decode cX6_missing 19 = .ok (.iconst 1, 1) := by decide +kernel
theorem dX6_missing_20 : decode cX6_missing 20 = .ok (.if_icmp .lt 9, 3) := by decide +kernel
theorem dX6_missing_23 : decode cX6_missing 23 = .ok (.iload_n 3, 1) := by decide +kernel
theorem dX6_missing_24 : decode cX6_missing 24 = .ok (.bipush 16, 2) := by decide +kernel
theorem dX6_missing_26 : decode cX6_missing 26 = .ok (.if_icmp .le 6, 3) := by decide +kernel
theorem dX6_missing_29 : decode cX6_missing 29 = .ok (.ldc 65, 2) := by decide +kernel
theorem dX6_missing_31 : decode cX6_missing 31 = .ok (.ireturn, 1) := by decide +kernel
theorem dX6_missing_32 : decode cX6_missing 32 = .ok (.aload_n 0, 1) := by decide +kernel
theorem dX6_missing_33 : decode cX6_missing 33 = .ok (.iload_n 1, 1) := by decide +kernel
theorem dX6_missing_34 : decode cX6_missing 34 = .ok (.iload_n 2, 1) := by decide +kernel
theorem dX6_missing_35 : decode cX6_missing 35 = .ok (.iload_n 3, 1) := by decide +kernel
theorem dX6_missing_36 : decode cX6_missing 36 = .ok (.invokevirtual 240, 3) := by decide +kernel
theorem dX6_missing_39 : decode cX6_missing 39 = .ok (.istore 4, 2) := by decide +kernel
theorem dX6_missing_41 : decode cX6_missing 41 = .ok (.iload 4, 2) := by decide +kernel
theorem dX6_missing_43 : decode cX6_missing 43 = .ok (.ifCond .eq 10, 3) := by decide +kernel
theorem dX6_missing_46 : decode cX6_missing 46 = .ok (.aload_n 0, 1) := by decide +kernel
theorem dX6_missing_47 : decode cX6_missing 47 = .ok (.iload 4, 2) := by decide +kernel
theorem dX6_missing_49 : decode cX6_missing 49 = .ok (.invokevirtual 66, 3) := by decide +kernel
theorem dX6_missing_52 : decode cX6_missing 52 = .ok (.ireturn, 1) := by decide +kernel
theorem dX6_missing_53 : decode cX6_missing 53 = .ok (.aload_n 0, 1) := by decide +kernel
theorem dX6_missing_54 : decode cX6_missing 54 = .ok (.aload_n 0, 1) := by decide +kernel
theorem dX6_missing_55 : decode cX6_missing 55 = .ok (.getfield 46, 3) := by decide +kernel
theorem dX6_missing_58 : decode cX6_missing 58 = .ok (.aload_n 0, 1) := by decide +kernel
theorem dX6_missing_59 : decode cX6_missing 59 = .ok (.getfield 26, 3) := by decide +kernel
theorem dX6_missing_62 : decode cX6_missing 62 = .ok (.aload_n 0, 1) := by decide +kernel
theorem dX6_missing_63 : decode cX6_missing 63 = .ok (.getfield 10, 3) := by decide +kernel
theorem dX6_missing_66 : decode cX6_missing 66 = .ok (.aload_n 0, 1) := by decide +kernel
theorem dX6_missing_67 : decode cX6_missing 67 = .ok (.getfield 10, 3) := by decide +kernel
theorem dX6_missing_70 : decode cX6_missing 70 = .ok (.iload_n 1, 1) := by decide +kernel
theorem dX6_missing_71 : decode cX6_missing 71 = .ok (.iload_n 2, 1) := by decide +kernel
theorem dX6_missing_72 : decode cX6_missing 72 = .ok (.invokevirtual 243, 3) := by decide +kernel
theorem dX6_missing_75 : decode cX6_missing 75 = .ok (.iload_n 3, 1) := by decide +kernel
theorem dX6_missing_76 : decode cX6_missing 76 = .ok (.invokevirtual 245, 3) := by decide +kernel
theorem dX6_missing_79 : decode cX6_missing 79 = .ok (.invokevirtual 74, 3) := by decide +kernel
theorem dX6_missing_82 : decode cX6_missing 82 = .ok (.ireturn, 1) := by decide +kernel
theorem dX6_windy_0 : decode cX6_windy 0 = .ok (.aload_n 0, 1) := by decide +kernel
theorem dX6_windy_1 : decode cX6_windy 1 = .ok (.invokevirtual 131, 3) := by decide +kernel
theorem dX6_windy_4 : decode cX6_windy 4 = .ok (.ifCond .eq 6, 3) := by decide +kernel
theorem dX6_windy_7 : decode cX6_windy 7 = .ok (.ldc 135, 2) := by decide +kernel
theorem dX6_windy_9 : decode cX6_windy 9 = .ok (.ireturn, 1) := by decide +kernel
theorem dX6_windy_10 : decode cX6_windy 10 = .ok (.aload_n 0, 1) := by decide +kernel
theorem dX6_windy_11 : decode cX6_windy 11 = .ok (.iload_n 1, 1) := by decide +kernel
theorem dX6_windy_12 : decode cX6_windy 12 = .ok (.invokevirtual 61, 3) := by decide +kernel
theorem dX6_windy_15 : decode cX6_windy 15 = .ok (.ifCond .ne 14, 3) := by decide +kernel
theorem dX6_windy_18 : decode cX6_windy 18 = .ok (.iload_n 3, 1) := by decide +kernel
theorem dX6_windy_19 : decode cX6_windy 19 = .ok (.iconst 1, 1) := by decide +kernel
theorem dX6_windy_20 : decode cX6_windy 20 = .ok (.if_icmp .lt 9, 3) := by decide +kernel
theorem dX6_windy_23 : decode cX6_windy 23 = .ok (.iload_n 3, 1) := by decide +kernel
theorem dX6_windy_24 : decode cX6_windy 24 = .ok (.bipush 16, 2) := by decide +kernel
theorem dX6_windy_26 : decode cX6_windy 26 = .ok (.if_icmp .le 6, 3) := by decide +kernel
theorem dX6_windy_29 : decode cX6_windy 29 = .ok (.ldc 65, 2) := by decide +kernel
theorem dX6_windy_31 : decode cX6_windy 31 = .ok (.ireturn, 1) := by decide +kernel
theorem dX6_windy_32 : decode cX6_windy 32 = .ok (.aload_n 0, 1) := by decide +kernel
theorem dX6_windy_33 : decode cX6_windy 33 = .ok (.iload_n 1, 1) := by decide +kernel
theorem dX6_windy_34 : decode cX6_windy 34 = .ok (.iload_n 2, 1) := by decide +kernel
theorem dX6_windy_35 : decode cX6_windy 35 = .ok (.iload_n 3, 1) := by decide +kernel
theorem dX6_windy_36 : decode cX6_windy 36 = .ok (.invokevirtual 240, 3) := by decide +kernel
theorem dX6_windy_39 : decode cX6_windy 39 = .ok (.istore 4, 2) := by decide +kernel
theorem dX6_windy_41 : decode cX6_windy 41 = .ok (.iload 4, 2) := by decide +kernel
theorem dX6_windy_43 : decode cX6_windy 43 = .ok (.ifCond .eq 10, 3) := by decide +kernel
theorem dX6_windy_46 : decode cX6_windy 46 = .ok (.aload_n 0, 1) := by decide +kernel
theorem dX6_windy_47 : decode cX6_windy 47 = .ok (.iload 4, 2) := by decide +kernel
theorem dX6_windy_49 : decode cX6_windy 49 = .ok (.invokevirtual 66, 3) := by decide +kernel
theorem dX6_windy_52 : decode cX6_windy 52 = .ok (.ireturn, 1) := by decide +kernel
theorem dX6_windy_53 : decode cX6_windy 53 = .ok (.aload_n 0, 1) := by decide +kernel
theorem dX6_windy_54 : decode cX6_windy 54 = .ok (.aload_n 0, 1) := by decide +kernel
theorem dX6_windy_55 : decode cX6_windy 55 = .ok (.getfield 46, 3) := by decide +kernel
theorem dX6_windy_58 : decode cX6_windy 58 = .ok (.aload_n 0, 1) := by decide +kernel
theorem dX6_windy_59 : decode cX6_windy 59 = .ok (.getfield 26, 3) := by decide +kernel
theorem dX6_windy_62 : decode cX6_windy 62 = .ok (.aload_n 0, 1) := by decide +kernel
theorem dX6_windy_63 : decode cX6_windy 63 = .ok (.getfield 10, 3) := by decide +kernel
theorem dX6_windy_66 : decode cX6_windy 66 = .ok (.aload_n 0, 1) := by decide +kernel
theorem dX6_windy_67 : decode cX6_windy 67 = .ok (.getfield 10, 3) := by decide +kernel
theorem dX6_windy_70 : decode cX6_windy 70 = .ok (.iload_n 1, 1) := by decide +kernel
theorem dX6_windy_71 : decode cX6_windy 71 = .ok (.iload_n 2, 1) := by decide +kernel
theorem dX6_windy_72 : decode cX6_windy 72 = .ok (.invokevirtual 243, 3) := by decide +kernel
theorem dX6_windy_75 : decode cX6_windy 75 = .ok (.iload_n 3, 1) := by decide +kernel
theorem dX6_windy_76 : decode cX6_windy 76 = .ok (.invokevirtual 249, 3) := by decide +kernel
theorem dX6_windy_79 : decode cX6_windy 79 = .ok (.invokevirtual 74, 3) := by decide +kernel
theorem dX6_windy_82 : decode cX6_windy 82 = .ok (.ireturn, 1) := by decide +kernel
theorem dX6_sorts_0 : decode cX6_sorts 0 = .ok (.aload_n 0, 1) := by decide +kernel
theorem dX6_sorts_1 : decode cX6_sorts 1 = .ok (.iload_n 1, 1) := by decide +kernel
theorem dX6_sorts_2 : decode cX6_sorts 2 = .ok (.invokevirtual 161, 3) := by decide +kernel
theorem dX6_sorts_5 : decode cX6_sorts 5 = .ok (.ifCond .ne 24, 3) := by decide +kernel
theorem dX6_sorts_8 : decode cX6_sorts 8 = .ok (.aload_n 0, 1) := by decide +kernel
theorem dX6_sorts_9 : decode cX6_sorts 9 = .ok (.iload_n 2, 1) := by decide +kernel
theorem dX6_sorts_10 : decode cX6_sorts 10 = .ok (.invokevirtual 61, 3) := by decide +kernel
theorem dX6_sorts_13 : decode cX6_sorts 13 = .ok (.ifCond .ne 16, 3) := by decide +kernel
theorem dX6_sorts_16 : decode cX6_sorts 16 = .ok (.iload 4, 2) := by decide +kernel
theorem dX6_sorts_18 : decode cX6_sorts 18 = .ok (.iconst 1, 1) := by decide +kernel
theorem dX6_sorts_19 : decode cX6_sorts 19 = .ok (.if_icmp .lt 10, 3) := by decide +kernel
theorem dX6_sorts_22 : decode cX6_sorts 22 = .ok (.iload 4, 2) := by decide +kernel
theorem dX6_sorts_24 : decode cX6_sorts 24 = .ok (.bipush 16, 2) := by decide +kernel
theorem dX6_sorts_26 : decode cX6_sorts 26 = .ok (.if_icmp .le 6, 3) := by decide +kernel
theorem dX6_sorts_29 : decode cX6_sorts 29 = .ok (.ldc 65, 2) := by decide +kernel
theorem dX6_sorts_31 : decode cX6_sorts 31 = .ok (.ireturn, 1) := by decide +kernel
theorem dX6_sorts_32 : decode cX6_sorts 32 = .ok (.aload_n 0, 1) := by decide +kernel
theorem dX6_sorts_33 : decode cX6_sorts 33 = .ok (.iload_n 2, 1) := by decide +kernel
theorem dX6_sorts_34 : decode cX6_sorts 34 = .ok (.iload_n 3, 1) := by decide +kernel
theorem dX6_sorts_35 : decode cX6_sorts 35 = .ok (.iload 4, 2) := by decide +kernel
theorem dX6_sorts_37 : decode cX6_sorts 37 = .ok (.invokevirtual 240, 3) := by decide +kernel
theorem dX6_sorts_40 : decode cX6_sorts 40 = .ok (.istore 5, 2) := by decide +kernel
theorem dX6_sorts_42 : decode cX6_sorts 42 = .ok (.iload 5, 2) := by decide +kernel
theorem dX6_sorts_44 : decode cX6_sorts 44 = .ok (.ifCond .eq 10, 3) := by decide +kernel
theorem dX6_sorts_47 : decode cX6_sorts 47 = .ok (.aload_n 0, 1) := by decide +kernel
theorem dX6_sorts_48 : decode cX6_sorts 48 = .ok (.iload 5, 2) := by decide +kernel
theorem dX6_sorts_50 : decode cX6_sorts 50 = .ok (.invokevirtual 66, 3) := by decide +kernel
theorem dX6_sorts_53 : decode cX6_sorts 53 = .ok (.ireturn, 1) := by decide +kernel
theorem dX6_sorts_54 : decode cX6_sorts 54 = .ok (.aload_n 0, 1) := by decide +kernel
theorem dX6_sorts_55 : decode cX6_sorts 55 = .ok (.aload_n 0, 1) := by decide +kernel
theorem dX6_sorts_56 : decode cX6_sorts 56 = .ok (.getfield 46, 3) := by decide +kernel
theorem dX6_sorts_59 : decode cX6_sorts 59 = .ok (.aload_n 0, 1) := by decide +kernel
theorem dX6_sorts_60 : decode cX6_sorts 60 = .ok (.getfield 26, 3) := by decide +kernel
theorem dX6_sorts_63 : decode cX6_sorts 63 = .ok (.iload_n 1, 1) := by decide +kernel
theorem dX6_sorts_64 : decode cX6_sorts 64 = .ok (.aload_n 0, 1) := by decide +kernel
theorem dX6_sorts_65 : decode cX6_sorts 65 = .ok (.getfield 10, 3) := by decide +kernel
theorem dX6_sorts_68 : decode cX6_sorts 68 = .ok (.aload_n 0, 1) := by decide +kernel
theorem dX6_sorts_69 : decode cX6_sorts 69 = .ok (.getfield 10, 3) := by decide +kernel
theorem dX6_sorts_72 : decode cX6_sorts 72 = .ok (.iload_n 2, 1) := by decide +kernel
theorem dX6_sorts_73 : decode cX6_sorts 73 = .ok (.iload_n 3, 1) := by decide +kernel
theorem dX6_sorts_74 : decode cX6_sorts 74 = .ok (.invokevirtual 243, 3) := by decide +kernel
theorem dX6_sorts_77 : decode cX6_sorts 77 = .ok (.iload 4, 2) := by decide +kernel
theorem dX6_sorts_79 : decode cX6_sorts 79 = .ok (.invokevirtual 252, 3) := by decide +kernel
theorem dX6_sorts_82 : decode cX6_sorts 82 = .ok (.invokevirtual 74, 3) := by decide +kernel
theorem dX6_sorts_85 : decode cX6_sorts 85 = .ok (.ireturn, 1) := by decide +kernel
theorem dX6_stay_0 : decode cX6_stay 0 = .ok (.aload_n 0, 1) := by decide +kernel
theorem dX6_stay_1 : decode cX6_stay 1 = .ok (.iload_n 1, 1) := by decide +kernel
theorem dX6_stay_2 : decode cX6_stay 2 = .ok (.invokevirtual 161, 3) := by decide +kernel
theorem dX6_stay_5 : decode cX6_stay 5 = .ok (.ifCond .ne 32, 3) := by decide +kernel
theorem dX6_stay_8 : decode cX6_stay 8 = .ok (.aload_n 0, 1) := by decide +kernel
theorem dX6_stay_9 : decode cX6_stay 9 = .ok (.iload_n 2, 1) := by decide +kernel
theorem dX6_stay_10 : decode cX6_stay 10 = .ok (.invokevirtual 200, 3) := by decide +kernel
theorem dX6_stay_13 : decode cX6_stay 13 = .ok (.ifCond .ne 24, 3) := by decide +kernel
theorem dX6_stay_16 : decode cX6_stay 16 = .ok (.iload_n 3, 1) := by decide +kernel
theorem dX6_stay_17 : decode cX6_stay 17 = .ok (.ifCond .lt 20, 3) := by decide +kernel
theorem dX6_stay_20 : decode cX6_stay 20 = .ok (.iload_n 3, 1) := by decide +kernel
theorem dX6_stay_21 : decode cX6_stay 21 = .ok (.bipush 10, 2) := by decide +kernel
theorem dX6_stay_23 : decode cX6_stay 23 = .ok (.if_icmp .gt 14, 3) := by decide +kernel
theorem dX6_stay_26 : decode cX6_stay 26 = .ok (.iload 4, 2) := by decide +kernel
theorem dX6_stay_28 : decode cX6_stay 28 = .ok (.ifCond .lt 9, 3) := by decide +kernel
theorem dX6_stay_31 : decode cX6_stay 31 = .ok (.iload 4, 2) := by decide +kernel
theorem dX6_stay_33 : decode cX6_stay 33 = .ok (.iconst 1, 1) := by decide +kernel
theorem dX6_stay_34 : decode cX6_stay 34 = .ok (.if_icmp .le 6, 3) := by decide +kernel
theorem dX6_stay_37 : decode cX6_stay 37 = .ok (.ldc 65, 2) := by decide +kernel
theorem dX6_stay_39 : decode cX6_stay 39 = .ok (.ireturn, 1) := by decide +kernel
theorem dX6_stay_40 : decode cX6_stay 40 = .ok (.aload_n 0, 1) := by decide +kernel
theorem dX6_stay_41 : decode cX6_stay 41 = .ok (.getfield 46, 3) := by decide +kernel
theorem dX6_stay_44 : decode cX6_stay 44 = .ok (.aload_n 0, 1) := by decide +kernel
theorem dX6_stay_45 : decode cX6_stay 45 = .ok (.getfield 26, 3) := by decide +kernel
theorem dX6_stay_48 : decode cX6_stay 48 = .ok (.iload_n 1, 1) := by decide +kernel
theorem dX6_stay_49 : decode cX6_stay 49 = .ok (.iload_n 2, 1) := by decide +kernel
theorem dX6_stay_50 : decode cX6_stay 50 = .ok (.iload_n 3, 1) := by decide +kernel
theorem dX6_stay_51 : decode cX6_stay 51 = .ok (.invokevirtual 256, 3) := by decide +kernel
theorem dX6_stay_54 : decode cX6_stay 54 = .ok (.istore 5, 2) := by decide +kernel
theorem dX6_stay_56 : decode cX6_stay 56 = .ok (.iconst 1, 1) := by decide +kernel
theorem dX6_stay_57 : decode cX6_stay 57 = .ok (.istore 6, 2) := by decide +kernel
theorem dX6_stay_59 : decode cX6_stay 59 = .ok (.iconst 1, 1) := by decide +kernel
theorem dX6_stay_60 : decode cX6_stay 60 = .ok (.istore 7, 2) := by decide +kernel
theorem dX6_stay_62 : decode cX6_stay 62 = .ok (.iload 7, 2) := by decide +kernel
theorem dX6_stay_64 : decode cX6_stay 64 = .ok (.aload_n 0, 1) := by decide +kernel
theorem dX6_stay_65 : decode cX6_stay 65 = .ok (.getfield 26, 3) := by decide +kernel
theorem dX6_stay_68 : decode cX6_stay 68 = .ok (.getfield 148, 3) := by decide +kernel
theorem dX6_stay_71 : decode cX6_stay 71 = .ok (.if_icmp .ge 16, 3) := by decide +kernel
theorem dX6_stay_74 : decode cX6_stay 74 = .ok (.iload 6, 2) := by decide +kernel
theorem dX6_stay_76 : decode cX6_stay 76 = .ok (.bipush 10, 2) := by decide +kernel
theorem dX6_stay_78 : decode cX6_stay 78 = .ok (.imul, 1) := by decide +kernel
theorem dX6_stay_79 : decode cX6_stay 79 = .ok (.istore 6, 2) := by decide +kernel
theorem dX6_stay_81 : decode cX6_stay 81 = .ok (.iinc 7 1, 3) := by decide +kernel
theorem dX6_stay_84 : decode cX6_stay 84 = .ok (.goto (-22), 3) := by decide +kernel
theorem dX6_stay_87 : decode cX6_stay 87 = .ok (.iload 5, 2) := by decide +kernel
theorem dX6_stay_89 : decode cX6_stay 89 = .ok (.iload 6, 2) := by decide +kernel
theorem dX6_stay_91 : decode cX6_stay 91 = .ok (.invokestatic 260, 3) := by decide +kernel
theorem dX6_stay_94 : decode cX6_stay 94 = .ok (.istore 7, 2) := by decide +kernel
theorem dX6_stay_96 : decode cX6_stay 96 = .ok (.iload 7, 2) := by decide +kernel
theorem dX6_stay_98 : decode cX6_stay 98 = .ok (.iconst 1, 1) := by decide +kernel
theorem dX6_stay_99 : decode cX6_stay 99 = .ok (.if_icmp .ge 6, 3) := by decide +kernel
theorem dX6_stay_102 : decode cX6_stay 102 = .ok (.ldc 65, 2) := by decide +kernel
theorem dX6_stay_104 : decode cX6_stay 104 = .ok (.ireturn, 1) := by decide +kernel
theorem dX6_stay_105 : decode cX6_stay 105 = .ok (.iload 4, 2) := by decide +kernel
theorem dX6_stay_107 : decode cX6_stay 107 = .ok (.ifCond .ne 8, 3) := by decide +kernel
theorem dX6_stay_110 : decode cX6_stay 110 = .ok (.iload 5, 2) := by decide +kernel
theorem dX6_stay_112 : decode cX6_stay 112 = .ok (.goto 5, 3) := by decide +kernel
theorem dX6_stay_115 : decode cX6_stay 115 = .ok (.iload 6, 2) := by decide +kernel
theorem dX6_stay_117 : decode cX6_stay 117 = .ok (.iload 7, 2) := by decide +kernel
theorem dX6_stay_119 : decode cX6_stay 119 = .ok (.idiv, 1) := by decide +kernel
theorem dX6_stay_120 : decode cX6_stay 120 = .ok (.ireturn, 1) := by decide +kernel
theorem dX6_image_0 : decode cX6_image 0 = .ok (.iload_n 1, 1) := by decide +kernel
theorem dX6_image_1 : decode cX6_image 1 = .ok (.ifCond .lt 8, 3) := by decide +kernel
theorem dX6_image_4 : decode cX6_image 4 = .ok (.iload_n 1, 1) := by decide +kernel
theorem dX6_image_5 : decode cX6_image 5 = .ok (.iconst 2, 1) := by decide +kernel
theorem dX6_image_6 : decode cX6_image 6 = .ok (.if_icmp .lt 6, 3) := by decide +kernel
theorem dX6_image_9 : decode cX6_image 9 = .ok (.ldc 65, 2) := by decide +kernel
theorem dX6_image_11 : decode cX6_image 11 = .ok (.ireturn, 1) := by decide +kernel
theorem dX6_image_12 : decode cX6_image 12 = .ok (.aload_n 0, 1) := by decide +kernel
theorem dX6_image_13 : decode cX6_image 13 = .ok (.invokevirtual 131, 3) := by decide +kernel
theorem dX6_image_16 : decode cX6_image 16 = .ok (.ifCond .eq 6, 3) := by decide +kernel
theorem dX6_image_19 : decode cX6_image 19 = .ok (.ldc 135, 2) := by decide +kernel
theorem dX6_image_21 : decode cX6_image 21 = .ok (.ireturn, 1) := by decide +kernel
theorem dX6_image_22 : decode cX6_image 22 = .ok (.aload_n 0, 1) := by decide +kernel
theorem dX6_image_23 : decode cX6_image 23 = .ok (.iload_n 1, 1) := by decide +kernel
theorem dX6_image_24 : decode cX6_image 24 = .ok (.invokevirtual 263, 3) := by decide +kernel
theorem dX6_image_27 : decode cX6_image 27 = .ok (.aload_n 0, 1) := by decide +kernel
theorem dX6_image_28 : decode cX6_image 28 = .ok (.getfield 26, 3) := by decide +kernel
theorem dX6_image_31 : decode cX6_image 31 = .ok (.invokevirtual 118, 3) := by decide +kernel
theorem dX6_image_34 : decode cX6_image 34 = .ok (.iconst 1, 1) := by decide +kernel
theorem dX6_image_35 : decode cX6_image 35 = .ok (.ireturn, 1) := by decide +kernel
theorem dX6_restore_0 : decode cX6_restore 0 = .ok (.iload_n 1, 1) := by decide +kernel
theorem dX6_restore_1 : decode cX6_restore 1 = .ok (.ifCond .lt 8, 3) := by decide +kernel
theorem dX6_restore_4 : decode cX6_restore 4 = .ok (.iload_n 1, 1) := by decide +kernel
theorem dX6_restore_5 : decode cX6_restore 5 = .ok (.iconst 2, 1) := by decide +kernel
theorem dX6_restore_6 : decode cX6_restore 6 = .ok (.if_icmp .lt 6, 3) := by decide +kernel
theorem dX6_restore_9 : decode cX6_restore 9 = .ok (.ldc 65, 2) := by decide +kernel
theorem dX6_restore_11 : decode cX6_restore 11 = .ok (.ireturn, 1) := by decide +kernel
theorem dX6_restore_12 : decode cX6_restore 12 = .ok (.aload_n 0, 1) := by decide +kernel
theorem dX6_restore_13 : decode cX6_restore 13 = .ok (.iload_n 1, 1) := by decide +kernel
theorem dX6_restore_14 : decode cX6_restore 14 = .ok (.invokevirtual 263, 3) := by decide +kernel
theorem dX6_restore_17 : decode cX6_restore 17 = .ok (.getfield 148, 3) := by decide +kernel
theorem dX6_restore_20 : decode cX6_restore 20 = .ok (.ifCond .ne 6, 3) := by decide +kernel
theorem dX6_restore_23 : decode cX6_restore 23 = .ok (.ldc 135, 2) := by decide +kernel
theorem dX6_restore_25 : decode cX6_restore 25 = .ok (.ireturn, 1) := by decide +kernel
theorem dX6_restore_26 : decode cX6_restore 26 = .ok (.aload_n 0, 1) := by decide +kernel
theorem dX6_restore_27 : decode cX6_restore 27 = .ok (.getfield 26, 3) := by decide +kernel
theorem dX6_restore_30 : decode cX6_restore 30 = .ok (.aload_n 0, 1) := by decide +kernel
theorem dX6_restore_31 : decode cX6_restore 31 = .ok (.iload_n 1, 1) := by decide +kernel
theorem dX6_restore_32 : decode cX6_restore 32 = .ok (.invokevirtual 263, 3) := by decide +kernel
theorem dX6_restore_35 : decode cX6_restore 35 = .ok (.invokevirtual 118, 3) := by decide +kernel
theorem dX6_restore_38 : decode cX6_restore 38 = .ok (.aload_n 0, 1) := by decide +kernel
theorem dX6_restore_39 : decode cX6_restore 39 = .ok (.getfield 39, 3) := by decide +kernel
theorem dX6_restore_42 : decode cX6_restore 42 = .ok (.invokevirtual 122, 3) := by decide +kernel
theorem dX6_restore_45 : decode cX6_restore 45 = .ok (.iconst 1, 1) := by decide +kernel
theorem dX6_restore_46 : decode cX6_restore 46 = .ok (.ireturn, 1) := by decide +kernel
theorem dX6_kind_0 : decode cX6_kind 0 = .ok (.aload_n 0, 1) := by decide +kernel
theorem dX6_kind_1 : decode cX6_kind 1 = .ok (.iload_n 1, 1) := by decide +kernel
theorem dX6_kind_2 : decode cX6_kind 2 = .ok (.invokevirtual 161, 3) := by decide +kernel
theorem dX6_kind_5 : decode cX6_kind 5 = .ok (.ifCond .eq 6, 3) := by decide +kernel
theorem dX6_kind_8 : decode cX6_kind 8 = .ok (.ldc 65, 2) := by decide +kernel
theorem dX6_kind_10 : decode cX6_kind 10 = .ok (.ireturn, 1) := by decide +kernel
theorem dX6_kind_11 : decode cX6_kind 11 = .ok (.aload_n 0, 1) := by decide +kernel
theorem dX6_kind_12 : decode cX6_kind 12 = .ok (.getfield 26, 3) := by decide +kernel
theorem dX6_kind_15 : decode cX6_kind 15 = .ok (.getfield 267, 3) := by decide +kernel
theorem dX6_kind_18 : decode cX6_kind 18 = .ok (.iload_n 1, 1) := by decide +kernel
theorem dX6_kind_19 : decode cX6_kind 19 = .ok (.iaload, 1) := by decide +kernel
theorem dX6_kind_20 : decode cX6_kind 20 = .ok (.ireturn, 1) := by decide +kernel
theorem dX6_as_0 : decode cX6_as 0 = .ok (.aload_n 0, 1) := by decide +kernel
theorem dX6_as_1 : decode cX6_as 1 = .ok (.iload_n 1, 1) := by decide +kernel
theorem dX6_as_2 : decode cX6_as 2 = .ok (.invokevirtual 161, 3) := by decide +kernel
theorem dX6_as_5 : decode cX6_as 5 = .ok (.ifCond .ne 12, 3) := by decide +kernel
theorem dX6_as_8 : decode cX6_as 8 = .ok (.iload_n 2, 1) := by decide +kernel
theorem dX6_as_9 : decode cX6_as 9 = .ok (.ifCond .lt 8, 3) := by decide +kernel
theorem dX6_as_12 : decode cX6_as 12 = .ok (.iload_n 2, 1) := by decide +kernel
theorem dX6_as_13 : decode cX6_as 13 = .ok (.iconst 5, 1) := by decide +kernel
theorem dX6_as_14 : decode cX6_as 14 = .ok (.if_icmp .le 6, 3) := by decide +kernel
theorem dX6_as_17 : decode cX6_as 17 = .ok (.ldc 65, 2) := by decide +kernel
theorem dX6_as_19 : decode cX6_as 19 = .ok (.ireturn, 1) := by decide +kernel
theorem dX6_as_20 : decode cX6_as 20 = .ok (.aload_n 0, 1) := by decide +kernel
theorem dX6_as_21 : decode cX6_as 21 = .ok (.getfield 26, 3) := by decide +kernel
theorem dX6_as_24 : decode cX6_as 24 = .ok (.getfield 267, 3) := by decide +kernel
theorem dX6_as_27 : decode cX6_as 27 = .ok (.iload_n 1, 1) := by decide +kernel
theorem dX6_as_28 : decode cX6_as 28 = .ok (.iaload, 1) := by decide +kernel
theorem dX6_as_29 : decode cX6_as 29 = .ok (.iload_n 2, 1) := by decide +kernel
theorem dX6_as_30 : decode cX6_as 30 = .ok (.invokestatic 270, 3) := by decide +kernel
theorem dX6_as_33 : decode cX6_as 33 = .ok (.ifCond .ne 9, 3) := by decide +kernel
theorem dX6_as_36 : decode cX6_as 36 = .ok (.aload_n 0, 1) := by decide +kernel
theorem dX6_as_37 : decode cX6_as 37 = .ok (.iconst 3, 1) := by decide +kernel
theorem dX6_as_38 : decode cX6_as 38 = .ok (.invokevirtual 66, 3) := by decide +kernel
theorem dX6_as_41 : decode cX6_as 41 = .ok (.ireturn, 1) := by decide +kernel
theorem dX6_as_42 : decode cX6_as 42 = .ok (.aload_n 0, 1) := by decide +kernel
theorem dX6_as_43 : decode cX6_as 43 = .ok (.iload_n 1, 1) := by decide +kernel
theorem dX6_as_44 : decode cX6_as 44 = .ok (.invokevirtual 74, 3) := by decide +kernel
theorem dX6_as_47 : decode cX6_as 47 = .ok (.ireturn, 1) := by decide +kernel
theorem dX6_ask_0 : decode cX6_ask 0 = .ok (.aload_n 0, 1) := by decide +kernel
theorem dX6_ask_1 : decode cX6_ask 1 = .ok (.iload_n 1, 1) := by decide +kernel
theorem dX6_ask_2 : decode cX6_ask 2 = .ok (.invokevirtual 161, 3) := by decide +kernel
theorem dX6_ask_5 : decode cX6_ask 5 = .ok (.ifCond .ne 12, 3) := by decide +kernel
theorem dX6_ask_8 : decode cX6_ask 8 = .ok (.iload_n 2, 1) := by decide +kernel
theorem dX6_ask_9 : decode cX6_ask 9 = .ok (.ifCond .lt 8, 3) := by decide +kernel
theorem dX6_ask_12 : decode cX6_ask 12 = .ok (.iload_n 2, 1) := by decide +kernel
theorem dX6_ask_13 : decode cX6_ask 13 = .ok (.iconst 2, 1) := by decide +kernel
theorem dX6_ask_14 : decode cX6_ask 14 = .ok (.if_icmp .lt 6, 3) := by decide +kernel
theorem dX6_ask_17 : decode cX6_ask 17 = .ok (.ldc 65, 2) := by decide +kernel
theorem dX6_ask_19 : decode cX6_ask 19 = .ok (.ireturn, 1) := by decide +kernel
theorem dX6_ask_20 : decode cX6_ask 20 = .ok (.aload_n 0, 1) := by decide +kernel
theorem dX6_ask_21 : decode cX6_ask 21 = .ok (.getfield 53, 3) := by decide +kernel
theorem dX6_ask_24 : decode cX6_ask 24 = .ok (.aload_n 0, 1) := by decide +kernel
theorem dX6_ask_25 : decode cX6_ask 25 = .ok (.getfield 26, 3) := by decide +kernel
theorem dX6_ask_28 : decode cX6_ask 28 = .ok (.iload_n 1, 1) := by decide +kernel
theorem dX6_ask_29 : decode cX6_ask 29 = .ok (.iload_n 2, 1) := by decide +kernel
theorem dX6_ask_30 : decode cX6_ask 30 = .ok (.invokevirtual 274, 3) := by decide +kernel
theorem dX6_ask_33 : decode cX6_ask 33 = .ok (.ireturn, 1) := by decide +kernel
theorem dX6_trace_0 : decode cX6_trace 0 = .ok (.iload_n 1, 1) := by decide +kernel
theorem dX6_trace_1 : decode cX6_trace 1 = .ok (.ifCond .lt 14, 3) := by decide +kernel
theorem dX6_trace_4 : decode cX6_trace 4 = .ok (.iload_n 1, 1) := by decide +kernel
theorem dX6_trace_5 : decode cX6_trace 5 = .ok (.aload_n 0, 1) := by decide +kernel
theorem dX6_trace_6 : decode cX6_trace 6 = .ok (.getfield 53, 3) := by decide +kernel
theorem dX6_trace_9 : decode cX6_trace 9 = .ok (.getfield 276, 3) := by decide +kernel
theorem dX6_trace_12 : decode cX6_trace 12 = .ok (.if_icmp .lt 6, 3) := by decide +kernel
theorem dX6_trace_15 : decode cX6_trace 15 = .ok (.ldc 227, 2) := by decide +kernel
theorem dX6_trace_17 : decode cX6_trace 17 = .ok (.ireturn, 1) := by decide +kernel
theorem dX6_trace_18 : decode cX6_trace 18 = .ok (.aload_n 0, 1) := by decide +kernel
theorem dX6_trace_19 : decode cX6_trace 19 = .ok (.getfield 53, 3) := by decide +kernel
theorem dX6_trace_22 : decode cX6_trace 22 = .ok (.getfield 279, 3) := by decide +kernel
theorem dX6_trace_25 : decode cX6_trace 25 = .ok (.iload_n 1, 1) := by decide +kernel
theorem dX6_trace_26 : decode cX6_trace 26 = .ok (.iaload, 1) := by decide +kernel
theorem dX6_trace_27 : decode cX6_trace 27 = .ok (.ireturn, 1) := by decide +kernel
theorem dX6_count_0 : decode cX6_count 0 = .ok (.iload_n 1, 1) := by decide +kernel
theorem dX6_count_1 : decode cX6_count 1 = .ok (.tableswitch 114 0 7 #[47, 55, 63, 71, 79, 87, 98, 106], 47) := by decide +kernel
theorem dX6_count_48 : decode cX6_count 48 = .ok (.aload_n 0, 1) := by decide +kernel
theorem dX6_count_49 : decode cX6_count 49 = .ok (.getfield 10, 3) := by decide +kernel
theorem dX6_count_52 : decode cX6_count 52 = .ok (.invokevirtual 282, 3) := by decide +kernel
theorem dX6_count_55 : decode cX6_count 55 = .ok (.ireturn, 1) := by decide +kernel
theorem dX6_count_56 : decode cX6_count 56 = .ok (.aload_n 0, 1) := by decide +kernel
theorem dX6_count_57 : decode cX6_count 57 = .ok (.getfield 26, 3) := by decide +kernel
theorem dX6_count_60 : decode cX6_count 60 = .ok (.getfield 148, 3) := by decide +kernel
theorem dX6_count_63 : decode cX6_count 63 = .ok (.ireturn, 1) := by decide +kernel
theorem dX6_count_64 : decode cX6_count 64 = .ok (.aload_n 0, 1) := by decide +kernel
theorem dX6_count_65 : decode cX6_count 65 = .ok (.getfield 26, 3) := by decide +kernel
theorem dX6_count_68 : decode cX6_count 68 = .ok (.getfield 125, 3) := by decide +kernel
theorem dX6_count_71 : decode cX6_count 71 = .ok (.ireturn, 1) := by decide +kernel
theorem dX6_count_72 : decode cX6_count 72 = .ok (.aload_n 0, 1) := by decide +kernel
theorem dX6_count_73 : decode cX6_count 73 = .ok (.getfield 26, 3) := by decide +kernel
theorem dX6_count_76 : decode cX6_count 76 = .ok (.getfield 136, 3) := by decide +kernel
theorem dX6_count_79 : decode cX6_count 79 = .ok (.ireturn, 1) := by decide +kernel
theorem dX6_count_80 : decode cX6_count 80 = .ok (.aload_n 0, 1) := by decide +kernel
theorem dX6_count_81 : decode cX6_count 81 = .ok (.getfield 26, 3) := by decide +kernel
theorem dX6_count_84 : decode cX6_count 84 = .ok (.getfield 158, 3) := by decide +kernel
theorem dX6_count_87 : decode cX6_count 87 = .ok (.ireturn, 1) := by decide +kernel
theorem dX6_count_88 : decode cX6_count 88 = .ok (.aload_n 0, 1) := by decide +kernel
theorem dX6_count_89 : decode cX6_count 89 = .ok (.getfield 26, 3) := by decide +kernel
theorem dX6_count_92 : decode cX6_count 92 = .ok (.getfield 145, 3) := by decide +kernel
theorem dX6_count_95 : decode cX6_count 95 = .ok (.invokestatic 235, 3) := by decide +kernel
theorem dX6_count_98 : decode cX6_count 98 = .ok (.ireturn, 1) := by decide +kernel
theorem dX6_count_99 : decode cX6_count 99 = .ok (.aload_n 0, 1) := by decide +kernel
theorem dX6_count_100 : decode cX6_count 100 = .ok (.getfield 39, 3) := by decide +kernel
theorem dX6_count_103 : decode cX6_count 103 = .ok (.getfield 173, 3) := by decide +kernel
theorem dX6_count_106 : decode cX6_count 106 = .ok (.ireturn, 1) := by decide +kernel
theorem dX6_count_107 : decode cX6_count 107 = .ok (.aload_n 0, 1) := by decide +kernel
theorem dX6_count_108 : decode cX6_count 108 = .ok (.getfield 19, 3) := by decide +kernel
theorem dX6_count_111 : decode cX6_count 111 = .ok (.getfield 99, 3) := by decide +kernel
theorem dX6_count_114 : decode cX6_count 114 = .ok (.ireturn, 1) := by decide +kernel
theorem dX6_count_115 : decode cX6_count 115 = .ok (.ldc 65, 2) := by decide +kernel
theorem dX6_count_117 : decode cX6_count 117 = .ok (.ireturn, 1) := by decide +kernel
theorem dX6_status_0 : decode cX6_status 0 = .ok (.aload_n 0, 1) := by decide +kernel
theorem dX6_status_1 : decode cX6_status 1 = .ok (.getfield 57, 3) := by decide +kernel
theorem dX6_status_4 : decode cX6_status 4 = .ok (.ireturn, 1) := by decide +kernel
theorem dX6_found_0 : decode cX6_found 0 = .ok (.aload_n 0, 1) := by decide +kernel
theorem dX6_found_1 : decode cX6_found 1 = .ok (.iload_n 1, 1) := by decide +kernel
theorem dX6_found_2 : decode cX6_found 2 = .ok (.putfield 57, 3) := by decide +kernel
theorem dX6_found_5 : decode cX6_found 5 = .ok (.ldc_w 285, 3) := by decide +kernel
theorem dX6_found_8 : decode cX6_found 8 = .ok (.iload_n 1, 1) := by decide +kernel
theorem dX6_found_9 : decode cX6_found 9 = .ok (.isub, 1) := by decide +kernel
theorem dX6_found_10 : decode cX6_found 10 = .ok (.ireturn, 1) := by decide +kernel
theorem dX6_fine_0 : decode cX6_fine 0 = .ok (.aload_n 0, 1) := by decide +kernel
theorem dX6_fine_1 : decode cX6_fine 1 = .ok (.iconst 0, 1) := by decide +kernel
theorem dX6_fine_2 : decode cX6_fine 2 = .ok (.putfield 57, 3) := by decide +kernel
theorem dX6_fine_5 : decode cX6_fine 5 = .ok (.iload_n 1, 1) := by decide +kernel
theorem dX6_fine_6 : decode cX6_fine 6 = .ok (.ireturn, 1) := by decide +kernel
theorem dX6_noSquare_0 : decode cX6_noSquare 0 = .ok (.aload_n 0, 1) := by decide +kernel
theorem dX6_noSquare_1 : decode cX6_noSquare 1 = .ok (.getfield 26, 3) := by decide +kernel
theorem dX6_noSquare_4 : decode cX6_noSquare 4 = .ok (.getfield 148, 3) := by decide +kernel
theorem dX6_noSquare_7 : decode cX6_noSquare 7 = .ok (.ifCond .ne 7, 3) := by decide +kernel
theorem dX6_noSquare_10 : decode cX6_noSquare 10 = .ok (.iconst 1, 1) := by decide +kernel
theorem dX6_noSquare_11 : decode cX6_noSquare 11 = .ok (.goto 4, 3) := by decide +kernel
theorem dX6_noSquare_14 : decode cX6_noSquare 14 = .ok (.iconst 0, 1) := by decide +kernel
theorem dX6_noSquare_15 : decode cX6_noSquare 15 = .ok (.ireturn, 1) := by decide +kernel
theorem dX6_noRow_0 : decode cX6_noRow 0 = .ok (.iload_n 1, 1) := by decide +kernel
theorem dX6_noRow_1 : decode cX6_noRow 1 = .ok (.ifCond .lt 9, 3) := by decide +kernel
theorem dX6_noRow_4 : decode cX6_noRow 4 = .ok (.iload_n 1, 1) := by decide +kernel
theorem dX6_noRow_5 : decode cX6_noRow 5 = .ok (.bipush 8, 2) := by decide +kernel
theorem dX6_noRow_7 : decode cX6_noRow 7 = .ok (.if_icmp .lt 7, 3) := by decide +kernel
theorem dX6_noRow_10 : decode cX6_noRow 10 = .ok (.iconst 1, 1) := by decide +kernel
theorem dX6_noRow_11 : decode cX6_noRow 11 = .ok (.goto 4, 3) := by decide +kernel
theorem dX6_noRow_14 : decode cX6_noRow 14 = .ok (.iconst 0, 1) := by decide +kernel
theorem dX6_noRow_15 : decode cX6_noRow 15 = .ok (.ireturn, 1) := by decide +kernel
theorem dX6_noSleeper_0 : decode cX6_noSleeper 0 = .ok (.iload_n 1, 1) := by decide +kernel
theorem dX6_noSleeper_1 : decode cX6_noSleeper 1 = .ok (.ifCond .lt 14, 3) := by decide +kernel
theorem dX6_noSleeper_4 : decode cX6_noSleeper 4 = .ok (.iload_n 1, 1) := by decide +kernel
theorem dX6_noSleeper_5 : decode cX6_noSleeper 5 = .ok (.aload_n 0, 1) := by decide +kernel
theorem dX6_noSleeper_6 : decode cX6_noSleeper 6 = .ok (.getfield 26, 3) := by decide +kernel
theorem dX6_noSleeper_9 : decode cX6_noSleeper 9 = .ok (.getfield 125, 3) := by decide +kernel
theorem dX6_noSleeper_12 : decode cX6_noSleeper 12 = .ok (.if_icmp .lt 7, 3) := by decide +kernel
theorem dX6_noSleeper_15 : decode cX6_noSleeper 15 = .ok (.iconst 1, 1) := by decide +kernel
theorem dX6_noSleeper_16 : decode cX6_noSleeper 16 = .ok (.goto 4, 3) := by decide +kernel
theorem dX6_noSleeper_19 : decode cX6_noSleeper 19 = .ok (.iconst 0, 1) := by decide +kernel
theorem dX6_noSleeper_20 : decode cX6_noSleeper 20 = .ok (.ireturn, 1) := by decide +kernel
theorem dX6_noSleepers_0 : decode cX6_noSleepers 0 = .ok (.iload_n 1, 1) := by decide +kernel
theorem dX6_noSleepers_1 : decode cX6_noSleepers 1 = .ok (.ifCond .lt 16, 3) := by decide +kernel
theorem dX6_noSleepers_4 : decode cX6_noSleepers 4 = .ok (.iload_n 1, 1) := by decide +kernel
theorem dX6_noSleepers_5 : decode cX6_noSleepers 5 = .ok (.iconst 1, 1) := by decide +kernel
theorem dX6_noSleepers_6 : decode cX6_noSleepers 6 = .ok (.aload_n 0, 1) := by decide +kernel
theorem dX6_noSleepers_7 : decode cX6_noSleepers 7 = .ok (.getfield 26, 3) := by decide +kernel
theorem dX6_noSleepers_10 : decode cX6_noSleepers 10 = .ok (.getfield 125, 3) := by decide +kernel
theorem dX6_noSleepers_13 : decode cX6_noSleepers 13 = .ok (.ishl, 1) := by decide +kernel
theorem dX6_noSleepers_14 : decode cX6_noSleepers 14 = .ok (.if_icmp .lt 7, 3) := by decide +kernel
theorem dX6_noSleepers_17 : decode cX6_noSleepers 17 = .ok (.iconst 1, 1) := by decide +kernel
theorem dX6_noSleepers_18 : decode cX6_noSleepers 18 = .ok (.goto 4, 3) := by decide +kernel
theorem dX6_noSleepers_21 : decode cX6_noSleepers 21 = .ok (.iconst 0, 1) := by decide +kernel
theorem dX6_noSleepers_22 : decode cX6_noSleepers 22 = .ok (.ireturn, 1) := by decide +kernel
theorem dX6_tooFar_0 : decode cX6_tooFar 0 = .ok (.iload_n 1, 1) := by decide +kernel
theorem dX6_tooFar_1 : decode cX6_tooFar 1 = .ok (.ifCond .lt 9, 3) := by decide +kernel
theorem dX6_tooFar_4 : decode cX6_tooFar 4 = .ok (.iload_n 1, 1) := by decide +kernel
theorem dX6_tooFar_5 : decode cX6_tooFar 5 = .ok (.bipush 99, 2) := by decide +kernel
theorem dX6_tooFar_7 : decode cX6_tooFar 7 = .ok (.if_icmp .le 7, 3) := by decide +kernel
theorem dX6_tooFar_10 : decode cX6_tooFar 10 = .ok (.iconst 1, 1) := by decide +kernel
theorem dX6_tooFar_11 : decode cX6_tooFar 11 = .ok (.goto 4, 3) := by decide +kernel
theorem dX6_tooFar_14 : decode cX6_tooFar 14 = .ok (.iconst 0, 1) := by decide +kernel
theorem dX6_tooFar_15 : decode cX6_tooFar 15 = .ok (.ireturn, 1) := by decide +kernel
theorem dX6_unreadable_0 : decode cX6_unreadable 0 = .ok (.aload_n 0, 1) := by decide +kernel
theorem dX6_unreadable_1 : decode cX6_unreadable 1 = .ok (.getfield 10, 3) := by decide +kernel
theorem dX6_unreadable_4 : decode cX6_unreadable 4 = .ok (.iload_n 1, 1) := by decide +kernel
theorem dX6_unreadable_5 : decode cX6_unreadable 5 = .ok (.invokevirtual 77, 3) := by decide +kernel
theorem dX6_unreadable_8 : decode cX6_unreadable 8 = .ok (.ifCond .eq 5, 3) := by decide +kernel
theorem dX6_unreadable_11 : decode cX6_unreadable 11 = .ok (.iconst 1, 1) := by decide +kernel
theorem dX6_unreadable_12 : decode cX6_unreadable 12 = .ok (.ireturn, 1) := by decide +kernel
theorem dX6_unreadable_13 : decode cX6_unreadable 13 = .ok (.aload_n 0, 1) := by decide +kernel
theorem dX6_unreadable_14 : decode cX6_unreadable 14 = .ok (.getfield 10, 3) := by decide +kernel
theorem dX6_unreadable_17 : decode cX6_unreadable 17 = .ok (.iload_n 1, 1) := by decide +kernel
theorem dX6_unreadable_18 : decode cX6_unreadable 18 = .ok (.iload_n 2, 1) := by decide +kernel
theorem dX6_unreadable_19 : decode cX6_unreadable 19 = .ok (.iload_n 3, 1) := by decide +kernel
theorem dX6_unreadable_20 : decode cX6_unreadable 20 = .ok (.invokevirtual 80, 3) := by decide +kernel
theorem dX6_unreadable_23 : decode cX6_unreadable 23 = .ok (.ifCond .eq 7, 3) := by decide +kernel
theorem dX6_unreadable_26 : decode cX6_unreadable 26 = .ok (.iconst 2, 1) := by decide +kernel
theorem dX6_unreadable_27 : decode cX6_unreadable 27 = .ok (.goto 4, 3) := by decide +kernel
theorem dX6_unreadable_30 : decode cX6_unreadable 30 = .ok (.iconst 0, 1) := by decide +kernel
theorem dX6_unreadable_31 : decode cX6_unreadable 31 = .ok (.ireturn, 1) := by decide +kernel
theorem dX6_imageOf_0 : decode cX6_imageOf 0 = .ok (.iload_n 1, 1) := by decide +kernel
theorem dX6_imageOf_1 : decode cX6_imageOf 1 = .ok (.ifCond .ne 10, 3) := by decide +kernel
theorem dX6_imageOf_4 : decode cX6_imageOf 4 = .ok (.aload_n 0, 1) := by decide +kernel
theorem dX6_imageOf_5 : decode cX6_imageOf 5 = .ok (.getfield 30, 3) := by decide +kernel
theorem dX6_imageOf_8 : decode cX6_imageOf 8 = .ok (.goto 7, 3) := by decide +kernel
theorem dX6_imageOf_11 : decode cX6_imageOf 11 = .ok (.aload_n 0, 1) := by decide +kernel
theorem dX6_imageOf_12 : decode cX6_imageOf 12 = .ok (.getfield 33, 3) := by decide +kernel
theorem dX6_imageOf_15 : decode cX6_imageOf 15 = .ok (.areturn, 1) := by decide +kernel
theorem dX6_isOne_0 : decode cX6_isOne 0 = .ok (.iload_n 0, 1) := by decide +kernel
theorem dX6_isOne_1 : decode cX6_isOne 1 = .ok (.istore_n 2, 1) := by decide +kernel
theorem dX6_isOne_2 : decode cX6_isOne 2 = .ok (.iconst 0, 1) := by decide +kernel
theorem dX6_isOne_3 : decode cX6_isOne 3 = .ok (.istore_n 3, 1) := by decide +kernel
theorem dX6_isOne_4 : decode cX6_isOne 4 = .ok (.iload_n 3, 1) := by decide +kernel
theorem dX6_isOne_5 : decode cX6_isOne 5 = .ok (.getstatic 286, 3) := by decide +kernel
theorem dX6_isOne_8 : decode cX6_isOne 8 = .ok (.arraylength, 1) := by decide +kernel
theorem dX6_isOne_9 : decode cX6_isOne 9 = .ok (.if_icmp .ge 26, 3) := by decide +kernel
theorem dX6_isOne_12 : decode cX6_isOne 12 = .ok (.iload_n 2, 1) := by decide +kernel
theorem dX6_isOne_13 : decode cX6_isOne 13 = .ok (.ifCond .eq 22, 3) := by decide +kernel
theorem dX6_isOne_16 : decode cX6_isOne 16 = .ok (.iload_n 2, 1) := by decide +kernel
theorem dX6_isOne_17 : decode cX6_isOne 17 = .ok (.iload_n 1, 1) := by decide +kernel
theorem dX6_isOne_18 : decode cX6_isOne 18 = .ok (.if_icmp .ne 5, 3) := by decide +kernel
theorem dX6_isOne_21 : decode cX6_isOne 21 = .ok (.iconst 1, 1) := by decide +kernel
theorem dX6_isOne_22 : decode cX6_isOne 22 = .ok (.ireturn, 1) := by decide +kernel
theorem dX6_isOne_23 : decode cX6_isOne 23 = .ok (.getstatic 286, 3) := by decide +kernel
theorem dX6_isOne_26 : decode cX6_isOne 26 = .ok (.iload_n 2, 1) := by decide +kernel
theorem dX6_isOne_27 : decode cX6_isOne 27 = .ok (.iaload, 1) := by decide +kernel
theorem dX6_isOne_28 : decode cX6_isOne 28 = .ok (.istore_n 2, 1) := by decide +kernel
theorem dX6_isOne_29 : decode cX6_isOne 29 = .ok (.iinc 3 1, 3) := by decide +kernel
theorem dX6_isOne_32 : decode cX6_isOne 32 = .ok (.goto (-28), 3) := by decide +kernel
theorem dX6_isOne_35 : decode cX6_isOne 35 = .ok (.iload_n 1, 1) := by decide +kernel
theorem dX6_isOne_36 : decode cX6_isOne 36 = .ok (.ifCond .ne 7, 3) := by decide +kernel
theorem dX6_isOne_39 : decode cX6_isOne 39 = .ok (.iconst 1, 1) := by decide +kernel
theorem dX6_isOne_40 : decode cX6_isOne 40 = .ok (.goto 4, 3) := by decide +kernel
theorem dX6_isOne_43 : decode cX6_isOne 43 = .ok (.iconst 0, 1) := by decide +kernel
theorem dX6_isOne_44 : decode cX6_isOne 44 = .ok (.ireturn, 1) := by decide +kernel
theorem dX6_greatestShared_0 : decode cX6_greatestShared 0 = .ok (.iload_n 1, 1) := by decide +kernel
theorem dX6_greatestShared_1 : decode cX6_greatestShared 1 = .ok (.istore_n 2, 1) := by decide +kernel
theorem dX6_greatestShared_2 : decode cX6_greatestShared 2 = .ok (.iload_n 0, 1) := by decide +kernel
theorem dX6_greatestShared_3 : decode cX6_greatestShared 3 = .ok (.istore_n 3, 1) := by decide +kernel
theorem dX6_greatestShared_4 : decode cX6_greatestShared 4 = .ok (.iconst 0, 1) := by decide +kernel
theorem dX6_greatestShared_5 : decode cX6_greatestShared 5 = .ok (.istore 4, 2) := by decide +kernel
theorem dX6_greatestShared_7 : decode cX6_greatestShared 7 = .ok (.iload 4, 2) := by decide +kernel
theorem dX6_greatestShared_9 : decode cX6_greatestShared 9 = .ok (.bipush 64, 2) := by decide +kernel
theorem dX6_greatestShared_11 : decode cX6_greatestShared 11 = .ok (.if_icmp .ge 23, 3) := by decide +kernel
theorem dX6_greatestShared_14 : decode cX6_greatestShared 14 = .ok (.iload_n 3, 1) := by decide +kernel
theorem dX6_greatestShared_15 : decode cX6_greatestShared 15 = .ok (.ifCond .le 19, 3) := by decide +kernel
theorem dX6_greatestShared_18 : decode cX6_greatestShared 18 = .ok (.iload_n 2, 1) := by decide +kernel
theorem dX6_greatestShared_19 : decode cX6_greatestShared 19 = .ok (.iload_n 3, 1) := by decide +kernel
theorem dX6_greatestShared_20 : decode cX6_greatestShared 20 = .ok (.irem, 1) := by decide +kernel
theorem dX6_greatestShared_21 : decode cX6_greatestShared 21 = .ok (.istore 5, 2) := by decide +kernel
theorem dX6_greatestShared_23 : decode cX6_greatestShared 23 = .ok (.iload_n 3, 1) := by decide +kernel
theorem dX6_greatestShared_24 : decode cX6_greatestShared 24 = .ok (.istore_n 2, 1) := by decide +kernel
theorem dX6_greatestShared_25 : decode cX6_greatestShared 25 = .ok (.iload 5, 2) := by decide +kernel
theorem dX6_greatestShared_27 : decode cX6_greatestShared 27 = .ok (.istore_n 3, 1) := by decide +kernel
theorem dX6_greatestShared_28 : decode cX6_greatestShared 28 = .ok (.iinc 4 1, 3) := by decide +kernel
theorem dX6_greatestShared_31 : decode cX6_greatestShared 31 = .ok (.goto (-24), 3) := by decide +kernel
theorem dX6_greatestShared_34 : decode cX6_greatestShared 34 = .ok (.iload_n 2, 1) := by decide +kernel
theorem dX6_greatestShared_35 : decode cX6_greatestShared 35 = .ok (.ireturn, 1) := by decide +kernel
