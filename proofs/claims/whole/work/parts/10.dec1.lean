theorem dX0_init_0 : decode cX0_init 0 = .ok (.aload_n 0, 1) := by decide +kernel
theorem dX0_init_1 : decode cX0_init 1 = .ok (.invokespecial 3, 3) := by decide +kernel
theorem dX0_init_4 : decode cX0_init 4 = .ok (.aload_n 0, 1) := by decide +kernel
theorem dX0_init_5 : decode cX0_init 5 = .ok (.iconst 0, 1) := by decide +kernel
theorem dX0_init_6 : decode cX0_init 6 = .ok (.putfield 9, 3) := by decide +kernel
theorem dX0_init_9 : decode cX0_init 9 = .ok (.aload_n 0, 1) := by decide +kernel
theorem dX0_init_10 : decode cX0_init 10 = .ok (.iconst 0, 1) := by decide +kernel
theorem dX0_init_11 : decode cX0_init 11 = .ok (.putfield 15, 3) := by decide +kernel
theorem dX0_init_14 : decode cX0_init 14 = .ok (.aload_n 0, 1) := by decide +kernel
theorem dX0_init_15 : decode cX0_init 15 = .ok (.bipush 24, 2) := by decide +kernel
theorem dX0_init_17 : decode cX0_init 17 = .ok (.newarray .int, 2) := by decide +kernel
theorem dX0_init_19 : decode cX0_init 19 = .ok (.putfield 18, 3) := by decide +kernel
theorem dX0_init_22 : decode cX0_init 22 = .ok (.aload_n 0, 1) := by decide +kernel
theorem dX0_init_23 : decode cX0_init 23 = .ok (.bipush 24, 2) := by decide +kernel
theorem dX0_init_25 : decode cX0_init 25 = .ok (.newarray .int, 2) := by decide +kernel
theorem dX0_init_27 : decode cX0_init 27 = .ok (.putfield 22, 3) := by decide +kernel
theorem dX0_init_30 : decode cX0_init 30 = .ok (.aload_n 0, 1) := by decide +kernel
theorem dX0_init_31 : decode cX0_init 31 = .ok (.bipush 24, 2) := by decide +kernel
theorem dX0_init_33 : decode cX0_init 33 = .ok (.newarray .int, 2) := by decide +kernel
theorem dX0_init_35 : decode cX0_init 35 = .ok (.putfield 25, 3) := by decide +kernel
theorem dX0_init_38 : decode cX0_init 38 = .ok (.aload_n 0, 1) := by decide +kernel
theorem dX0_init_39 : decode cX0_init 39 = .ok (.bipush 120, 2) := by decide +kernel
theorem dX0_init_41 : decode cX0_init 41 = .ok (.newarray .int, 2) := by decide +kernel
theorem dX0_init_43 : decode cX0_init 43 = .ok (.putfield 28, 3) := by decide +kernel
theorem dX0_init_46 : decode cX0_init 46 = .ok (.aload_n 0, 1) := by decide +kernel
theorem dX0_init_47 : decode cX0_init 47 = .ok (.sipush 144, 3) := by decide +kernel
theorem dX0_init_50 : decode cX0_init 50 = .ok (.newarray .int, 2) := by decide +kernel
theorem dX0_init_52 : decode cX0_init 52 = .ok (.putfield 31, 3) := by decide +kernel
theorem dX0_init_55 : decode cX0_init 55 = .ok (.return_, 1) := by decide +kernel
theorem dX0_keep_0 : decode cX0_keep 0 = .ok (.aload_n 0, 1) := by decide +kernel
theorem dX0_keep_1 : decode cX0_keep 1 = .ok (.getfield 18, 3) := by decide +kernel
theorem dX0_keep_4 : decode cX0_keep 4 = .ok (.aload_n 0, 1) := by decide +kernel
theorem dX0_keep_5 : decode cX0_keep 5 = .ok (.getfield 15, 3) := by decide +kernel
theorem dX0_keep_8 : decode cX0_keep 8 = .ok (.aload_n 1, 1) := by decide +kernel
theorem dX0_keep_9 : decode cX0_keep 9 = .ok (.getfield 34, 3) := by decide +kernel
theorem dX0_keep_12 : decode cX0_keep 12 = .ok (.iastore, 1) := by decide +kernel
theorem dX0_keep_13 : decode cX0_keep 13 = .ok (.aload_n 0, 1) := by decide +kernel
theorem dX0_keep_14 : decode cX0_keep 14 = .ok (.getfield 22, 3) := by decide +kernel
theorem dX0_keep_17 : decode cX0_keep 17 = .ok (.aload_n 0, 1) := by decide +kernel
theorem dX0_keep_18 : decode cX0_keep 18 = .ok (.getfield 15, 3) := by decide +kernel
theorem dX0_keep_21 : decode cX0_keep 21 = .ok (.aload_n 1, 1) := by decide +kernel
theorem dX0_keep_22 : decode cX0_keep 22 = .ok (.getfield 38, 3) := by decide +kernel
theorem dX0_keep_25 : decode cX0_keep 25 = .ok (.iastore, 1) := by decide +kernel
theorem dX0_keep_26 : decode cX0_keep 26 = .ok (.aload_n 0, 1) := by decide +kernel
theorem dX0_keep_27 : decode cX0_keep 27 = .ok (.getfield 25, 3) := by decide +kernel
theorem dX0_keep_30 : decode cX0_keep 30 = .ok (.aload_n 0, 1) := by decide +kernel
theorem dX0_keep_31 : decode cX0_keep 31 = .ok (.getfield 15, 3) := by decide +kernel
theorem dX0_keep_34 : decode cX0_keep 34 = .ok (.aload_n 1, 1) := by decide +kernel
theorem dX0_keep_35 : decode cX0_keep 35 = .ok (.getfield 40, 3) := by decide +kernel
theorem dX0_keep_38 : decode cX0_keep 38 = .ok (.iastore, 1) := by decide +kernel
theorem dX0_keep_39 : decode cX0_keep 39 = .ok (.aload_n 1, 1) := by decide +kernel
theorem dX0_keep_40 : decode cX0_keep 40 = .ok (.getfield 42, 3) := by decide +kernel
theorem dX0_keep_43 : decode cX0_keep 43 = .ok (.iconst 0, 1) := by decide +kernel
theorem dX0_keep_44 : decode cX0_keep 44 = .ok (.aload_n 0, 1) := by decide +kernel
theorem dX0_keep_45 : decode cX0_keep 45 = .ok (.getfield 28, 3) := by decide +kernel
theorem dX0_keep_48 : decode cX0_keep 48 = .ok (.aload_n 0, 1) := by decide +kernel
theorem dX0_keep_49 : decode cX0_keep 49 = .ok (.getfield 15, 3) := by decide +kernel
theorem dX0_keep_52 : decode cX0_keep 52 = .ok (.iconst 5, 1) := by decide +kernel
theorem dX0_keep_53 : decode cX0_keep 53 = .ok (.imul, 1) := by decide +kernel
theorem dX0_keep_54 : decode cX0_keep 54 = .ok (.iconst 5, 1) := by decide +kernel
theorem dX0_keep_55 : decode cX0_keep 55 = .ok (.invokestatic 43, 3) := by decide +kernel
theorem dX0_keep_58 : decode cX0_keep 58 = .ok (.aload_n 1, 1) := by decide +kernel
theorem dX0_keep_59 : decode cX0_keep 59 = .ok (.getfield 49, 3) := by decide +kernel
theorem dX0_keep_62 : decode cX0_keep 62 = .ok (.iconst 0, 1) := by decide +kernel
theorem dX0_keep_63 : decode cX0_keep 63 = .ok (.aload_n 0, 1) := by decide +kernel
theorem dX0_keep_64 : decode cX0_keep 64 = .ok (.getfield 31, 3) := by decide +kernel
theorem dX0_keep_67 : decode cX0_keep 67 = .ok (.aload_n 0, 1) := by decide +kernel
theorem dX0_keep_68 : decode cX0_keep 68 = .ok (.getfield 15, 3) := by decide +kernel
theorem dX0_keep_71 : decode cX0_keep 71 = .ok (.bipush 6, 2) := by decide +kernel
theorem dX0_keep_73 : decode cX0_keep 73 = .ok (.imul, 1) := by decide +kernel
theorem dX0_keep_74 : decode cX0_keep 74 = .ok (.bipush 6, 2) := by decide +kernel
theorem dX0_keep_76 : decode cX0_keep 76 = .ok (.invokestatic 43, 3) := by decide +kernel
theorem dX0_keep_79 : decode cX0_keep 79 = .ok (.aload_n 0, 1) := by decide +kernel
theorem dX0_keep_80 : decode cX0_keep 80 = .ok (.aload_n 0, 1) := by decide +kernel
theorem dX0_keep_81 : decode cX0_keep 81 = .ok (.getfield 15, 3) := by decide +kernel
theorem dX0_keep_84 : decode cX0_keep 84 = .ok (.iconst 1, 1) := by decide +kernel
theorem dX0_keep_85 : decode cX0_keep 85 = .ok (.iadd, 1) := by decide +kernel
theorem dX0_keep_86 : decode cX0_keep 86 = .ok (.bipush 24, 2) := by decide +kernel
theorem dX0_keep_88 : decode cX0_keep 88 = .ok (.irem, 1) := by decide +kernel
theorem dX0_keep_89 : decode cX0_keep 89 = .ok (.putfield 15, 3) := by decide +kernel
theorem dX0_keep_92 : decode cX0_keep 92 = .ok (.aload_n 0, 1) := by decide +kernel
theorem dX0_keep_93 : decode cX0_keep 93 = .ok (.bipush 24, 2) := by decide +kernel
theorem dX0_keep_95 : decode cX0_keep 95 = .ok (.aload_n 0, 1) := by decide +kernel
theorem dX0_keep_96 : decode cX0_keep 96 = .ok (.getfield 9, 3) := by decide +kernel
theorem dX0_keep_99 : decode cX0_keep 99 = .ok (.iconst 1, 1) := by decide +kernel
theorem dX0_keep_100 : decode cX0_keep 100 = .ok (.iadd, 1) := by decide +kernel
theorem dX0_keep_101 : decode cX0_keep 101 = .ok (.invokestatic 50, 3) := by decide +kernel
theorem dX0_keep_104 : decode cX0_keep 104 = .ok (.putfield 9, 3) := by decide +kernel
theorem dX0_keep_107 : decode cX0_keep 107 = .ok (.return_, 1) := by decide +kernel
theorem dX0_takeBack_0 : decode cX0_takeBack 0 = .ok (.aload_n 0, 1) := by decide +kernel
theorem dX0_takeBack_1 : decode cX0_takeBack 1 = .ok (.getfield 9, 3) := by decide +kernel
theorem dX0_takeBack_4 : decode cX0_takeBack 4 = .ok (.ifCond .ne 4, 3) := by decide +kernel
theorem dX0_takeBack_7 : decode cX0_takeBack 7 = .ok (.return_, 1) := by decide +kernel
theorem dX0_takeBack_8 : decode cX0_takeBack 8 = .ok (.aload_n 0, 1) := by decide +kernel
theorem dX0_takeBack_9 : decode cX0_takeBack 9 = .ok (.dup, 1) := by decide +kernel
theorem dX0_takeBack_10 : decode cX0_takeBack 10 = .ok (.getfield 9, 3) := by decide +kernel
theorem dX0_takeBack_13 : decode cX0_takeBack 13 = .ok (.iconst 1, 1) := by decide +kernel
theorem dX0_takeBack_14 : decode cX0_takeBack 14 = .ok (.isub, 1) := by decide +kernel
theorem dX0_takeBack_15 : decode cX0_takeBack 15 = .ok (.putfield 9, 3) := by decide +kernel
theorem dX0_takeBack_18 : decode cX0_takeBack 18 = .ok (.aload_n 0, 1) := by decide +kernel
theorem dX0_takeBack_19 : decode cX0_takeBack 19 = .ok (.aload_n 0, 1) := by decide +kernel
theorem dX0_takeBack_20 : decode cX0_takeBack 20 = .ok (.getfield 15, 3) := by decide +kernel
theorem dX0_takeBack_23 : decode cX0_takeBack 23 = .ok (.bipush 24, 2) := by decide +kernel
theorem dX0_takeBack_25 : decode cX0_takeBack 25 = .ok (.iadd, 1) := by decide +kernel
theorem dX0_takeBack_26 : decode cX0_takeBack 26 = .ok (.iconst 1, 1) := by decide +kernel
theorem dX0_takeBack_27 : decode cX0_takeBack 27 = .ok (.isub, 1) := by decide +kernel
theorem dX0_takeBack_28 : decode cX0_takeBack 28 = .ok (.bipush 24, 2) := by decide +kernel
theorem dX0_takeBack_30 : decode cX0_takeBack 30 = .ok (.irem, 1) := by decide +kernel
theorem dX0_takeBack_31 : decode cX0_takeBack 31 = .ok (.putfield 15, 3) := by decide +kernel
theorem dX0_takeBack_34 : decode cX0_takeBack 34 = .ok (.aload_n 1, 1) := by decide +kernel
theorem dX0_takeBack_35 : decode cX0_takeBack 35 = .ok (.aload_n 0, 1) := by decide +kernel
theorem dX0_takeBack_36 : decode cX0_takeBack 36 = .ok (.getfield 18, 3) := by decide +kernel
theorem dX0_takeBack_39 : decode cX0_takeBack 39 = .ok (.aload_n 0, 1) := by decide +kernel
theorem dX0_takeBack_40 : decode cX0_takeBack 40 = .ok (.getfield 15, 3) := by decide +kernel
theorem dX0_takeBack_43 : decode cX0_takeBack 43 = .ok (.iaload, 1) := by decide +kernel
theorem dX0_takeBack_44 : decode cX0_takeBack 44 = .ok (.putfield 34, 3) := by decide +kernel
theorem dX0_takeBack_47 : decode cX0_takeBack 47 = .ok (.aload_n 1, 1) := by decide +kernel
theorem dX0_takeBack_48 : decode cX0_takeBack 48 = .ok (.aload_n 0, 1) := by decide +kernel
theorem dX0_takeBack_49 : decode cX0_takeBack 49 = .ok (.getfield 22, 3) := by decide +kernel
theorem dX0_takeBack_52 : decode cX0_takeBack 52 = .ok (.aload_n 0, 1) := by decide +kernel
theorem dX0_takeBack_53 : decode cX0_takeBack 53 = .ok (.getfield 15, 3) := by decide +kernel
theorem dX0_takeBack_56 : decode cX0_takeBack 56 = .ok (.iaload, 1) := by decide +kernel
theorem dX0_takeBack_57 : decode cX0_takeBack 57 = .ok (.putfield 38, 3) := by decide +kernel
theorem dX0_takeBack_60 : decode cX0_takeBack 60 = .ok (.aload_n 1, 1) := by decide +kernel
theorem dX0_takeBack_61 : decode cX0_takeBack 61 = .ok (.aload_n 0, 1) := by decide +kernel
theorem dX0_takeBack_62 : decode cX0_takeBack 62 = .ok (.getfield 25, 3) := by decide +kernel
theorem dX0_takeBack_65 : decode cX0_takeBack 65 = .ok (.aload_n 0, 1) := by decide +kernel
theorem dX0_takeBack_66 : decode cX0_takeBack 66 = .ok (.getfield 15, 3) := by decide +kernel
theorem dX0_takeBack_69 : decode cX0_takeBack 69 = .ok (.iaload, 1) := by decide +kernel
theorem dX0_takeBack_70 : decode cX0_takeBack 70 = .ok (.putfield 40, 3) := by decide +kernel
theorem dX0_takeBack_73 : decode cX0_takeBack 73 = .ok (.aload_n 0, 1) := by decide +kernel
theorem dX0_takeBack_74 : decode cX0_takeBack 74 = .ok (.getfield 28, 3) := by decide +kernel
theorem dX0_takeBack_77 : decode cX0_takeBack 77 = .ok (.aload_n 0, 1) := by decide +kernel
theorem dX0_takeBack_78 : decode cX0_takeBack 78 = .ok (.getfield 15, 3) := by decide +kernel
theorem dX0_takeBack_81 : decode cX0_takeBack 81 = .ok (.iconst 5, 1) := by decide +kernel
theorem dX0_takeBack_82 : decode cX0_takeBack 82 = .ok (.imul, 1) := by decide +kernel
theorem dX0_takeBack_83 : decode cX0_takeBack 83 = .ok (.aload_n 1, 1) := by decide +kernel
theorem dX0_takeBack_84 : decode cX0_takeBack 84 = .ok (.getfield 42, 3) := by decide +kernel
theorem dX0_takeBack_87 : decode cX0_takeBack 87 = .ok (.iconst 0, 1) := by decide +kernel
theorem dX0_takeBack_88 : decode cX0_takeBack 88 = .ok (.iconst 5, 1) := by decide +kernel
theorem dX0_takeBack_89 : decode cX0_takeBack 89 = .ok (.invokestatic 43, 3) := by decide +kernel
theorem dX0_takeBack_92 : decode cX0_takeBack 92 = .ok (.aload_n 0, 1) := by decide +kernel
theorem dX0_takeBack_93 : decode cX0_takeBack 93 = .ok (.getfield 31, 3) := by decide +kernel
theorem dX0_takeBack_96 : decode cX0_takeBack 96 = .ok (.aload_n 0, 1) := by decide +kernel
theorem dX0_takeBack_97 : decode cX0_takeBack 97 = .ok (.getfield 15, 3) := by decide +kernel
theorem dX0_takeBack_100 : decode cX0_takeBack 100 = .ok (.bipush 6, 2) := by decide +kernel
theorem dX0_takeBack_102 : decode cX0_takeBack 102 = .ok (.imul, 1) := by decide +kernel
theorem dX0_takeBack_103 : decode cX0_takeBack 103 = .ok (.aload_n 1, 1) := by decide +kernel
theorem dX0_takeBack_104 : decode cX0_takeBack 104 = .ok (.getfield 49, 3) := by decide +kernel
theorem dX0_takeBack_107 : decode cX0_takeBack 107 = .ok (.iconst 0, 1) := by decide +kernel
theorem dX0_takeBack_108 : decode cX0_takeBack 108 = .ok (.bipush 6, 2) := by decide +kernel
theorem dX0_takeBack_110 : decode cX0_takeBack 110 = .ok (.invokestatic 43, 3) := by decide +kernel
theorem dX0_takeBack_113 : decode cX0_takeBack 113 = .ok (.return_, 1) := by decide +kernel
theorem dX0_forget_0 : decode cX0_forget 0 = .ok (.aload_n 0, 1) := by decide +kernel
theorem dX0_forget_1 : decode cX0_forget 1 = .ok (.iconst 0, 1) := by decide +kernel
theorem dX0_forget_2 : decode cX0_forget 2 = .ok (.putfield 9, 3) := by decide +kernel
theorem dX0_forget_5 : decode cX0_forget 5 = .ok (.return_, 1) := by decide +kernel
theorem dX1_init_0 : decode cX1_init 0 = .ok (.aload_n 0, 1) := by decide +kernel
theorem dX1_init_1 : decode cX1_init 1 = .ok (.invokespecial 3, 3) := by decide +kernel
theorem dX1_init_4 : decode cX1_init 4 = .ok (.aload_n 0, 1) := by decide +kernel
theorem dX1_init_5 : decode cX1_init 5 = .ok (.bipush 16, 2) := by decide +kernel
theorem dX1_init_7 : decode cX1_init 7 = .ok (.newarray .int, 2) := by decide +kernel
theorem dX1_init_9 : decode cX1_init 9 = .ok (.putfield 9, 3) := by decide +kernel
theorem dX1_init_12 : decode cX1_init 12 = .ok (.aload_n 0, 1) := by decide +kernel
theorem dX1_init_13 : decode cX1_init 13 = .ok (.iconst 0, 1) := by decide +kernel
theorem dX1_init_14 : decode cX1_init 14 = .ok (.putfield 15, 3) := by decide +kernel
theorem dX1_init_17 : decode cX1_init 17 = .ok (.aload_n 0, 1) := by decide +kernel
theorem dX1_init_18 : decode cX1_init 18 = .ok (.iconst 0, 1) := by decide +kernel
theorem dX1_init_19 : decode cX1_init 19 = .ok (.putfield 19, 3) := by decide +kernel
theorem dX1_init_22 : decode cX1_init 22 = .ok (.aload_n 0, 1) := by decide +kernel
theorem dX1_init_23 : decode cX1_init 23 = .ok (.iconst 0, 1) := by decide +kernel
theorem dX1_init_24 : decode cX1_init 24 = .ok (.putfield 22, 3) := by decide +kernel
theorem dX1_init_27 : decode cX1_init 27 = .ok (.aload_n 0, 1) := by decide +kernel
theorem dX1_init_28 : decode cX1_init 28 = .ok (.iconst 0, 1) := by decide +kernel
theorem dX1_init_29 : decode cX1_init 29 = .ok (.putfield 25, 3) := by decide +kernel
theorem dX1_init_32 : decode cX1_init 32 = .ok (.aload_n 0, 1) := by decide +kernel
theorem dX1_init_33 : decode cX1_init 33 = .ok (.iconst 0, 1) := by decide +kernel
theorem dX1_init_34 : decode cX1_init 34 = .ok (.putfield 28, 3) := by decide +kernel
theorem dX1_init_37 : decode cX1_init 37 = .ok (.return_, 1) := by decide +kernel
theorem dX1_begin_0 : decode cX1_begin 0 = .ok (.aload_n 0, 1) := by decide +kernel
theorem dX1_begin_1 : decode cX1_begin 1 = .ok (.iconst 0, 1) := by decide +kernel
theorem dX1_begin_2 : decode cX1_begin 2 = .ok (.putfield 15, 3) := by decide +kernel
theorem dX1_begin_5 : decode cX1_begin 5 = .ok (.aload_n 0, 1) := by decide +kernel
theorem dX1_begin_6 : decode cX1_begin 6 = .ok (.iload_n 2, 1) := by decide +kernel
theorem dX1_begin_7 : decode cX1_begin 7 = .ok (.putfield 19, 3) := by decide +kernel
theorem dX1_begin_10 : decode cX1_begin 10 = .ok (.aload_n 0, 1) := by decide +kernel
theorem dX1_begin_11 : decode cX1_begin 11 = .ok (.aload_n 1, 1) := by decide +kernel
theorem dX1_begin_12 : decode cX1_begin 12 = .ok (.getfield 31, 3) := by decide +kernel
theorem dX1_begin_15 : decode cX1_begin 15 = .ok (.iload_n 2, 1) := by decide +kernel
theorem dX1_begin_16 : decode cX1_begin 16 = .ok (.iaload, 1) := by decide +kernel
theorem dX1_begin_17 : decode cX1_begin 17 = .ok (.putfield 22, 3) := by decide +kernel
theorem dX1_begin_20 : decode cX1_begin 20 = .ok (.aload_n 0, 1) := by decide +kernel
theorem dX1_begin_21 : decode cX1_begin 21 = .ok (.aload_n 1, 1) := by decide +kernel
theorem dX1_begin_22 : decode cX1_begin 22 = .ok (.getfield 35, 3) := by decide +kernel
theorem dX1_begin_25 : decode cX1_begin 25 = .ok (.iload_n 2, 1) := by decide +kernel
theorem dX1_begin_26 : decode cX1_begin 26 = .ok (.iaload, 1) := by decide +kernel
theorem dX1_begin_27 : decode cX1_begin 27 = .ok (.putfield 25, 3) := by decide +kernel
theorem dX1_begin_30 : decode cX1_begin 30 = .ok (.aload_n 0, 1) := by decide +kernel
theorem dX1_begin_31 : decode cX1_begin 31 = .ok (.aload_n 1, 1) := by decide +kernel
theorem dX1_begin_32 : decode cX1_begin 32 = .ok (.getfield 37, 3) := by decide +kernel
theorem dX1_begin_35 : decode cX1_begin 35 = .ok (.iload_n 2, 1) := by decide +kernel
theorem dX1_begin_36 : decode cX1_begin 36 = .ok (.iaload, 1) := by decide +kernel
theorem dX1_begin_37 : decode cX1_begin 37 = .ok (.putfield 28, 3) := by decide +kernel
theorem dX1_begin_40 : decode cX1_begin 40 = .ok (.aload_n 0, 1) := by decide +kernel
theorem dX1_begin_41 : decode cX1_begin 41 = .ok (.iload_n 3, 1) := by decide +kernel
theorem dX1_begin_42 : decode cX1_begin 42 = .ok (.iconst 0, 1) := by decide +kernel
theorem dX1_begin_43 : decode cX1_begin 43 = .ok (.invokevirtual 39, 3) := by decide +kernel
theorem dX1_begin_46 : decode cX1_begin 46 = .ok (.ireturn, 1) := by decide +kernel
theorem dX1_answer_0 : decode cX1_answer 0 = .ok (.aload_n 0, 1) := by decide +kernel
theorem dX1_answer_1 : decode cX1_answer 1 = .ok (.aload_n 0, 1) := by decide +kernel
theorem dX1_answer_2 : decode cX1_answer 2 = .ok (.iload_n 1, 1) := by decide +kernel
theorem dX1_answer_3 : decode cX1_answer 3 = .ok (.invokevirtual 43, 3) := by decide +kernel
theorem dX1_answer_6 : decode cX1_answer 6 = .ok (.iload_n 2, 1) := by decide +kernel
theorem dX1_answer_7 : decode cX1_answer 7 = .ok (.iconst 1, 1) := by decide +kernel
theorem dX1_answer_8 : decode cX1_answer 8 = .ok (.iadd, 1) := by decide +kernel
theorem dX1_answer_9 : decode cX1_answer 9 = .ok (.invokevirtual 47, 3) := by decide +kernel
theorem dX1_answer_12 : decode cX1_answer 12 = .ok (.ireturn, 1) := by decide +kernel
theorem dX1_bodyFor_0 : decode cX1_bodyFor 0 = .ok (.iload_n 1, 1) := by decide +kernel
theorem dX1_bodyFor_1 : decode cX1_bodyFor 1 = .ok (.ifCond .ne 9, 3) := by decide +kernel
theorem dX1_bodyFor_4 : decode cX1_bodyFor 4 = .ok (.getstatic 50, 3) := by decide +kernel
theorem dX1_bodyFor_7 : decode cX1_bodyFor 7 = .ok (.goto 6, 3) := by decide +kernel
theorem dX1_bodyFor_10 : decode cX1_bodyFor 10 = .ok (.getstatic 53, 3) := by decide +kernel
theorem dX1_bodyFor_13 : decode cX1_bodyFor 13 = .ok (.astore_n 2, 1) := by decide +kernel
theorem dX1_bodyFor_14 : decode cX1_bodyFor 14 = .ok (.aload_n 0, 1) := by decide +kernel
theorem dX1_bodyFor_15 : decode cX1_bodyFor 15 = .ok (.getfield 22, 3) := by decide +kernel
theorem dX1_bodyFor_18 : decode cX1_bodyFor 18 = .ok (.istore_n 3, 1) := by decide +kernel
theorem dX1_bodyFor_19 : decode cX1_bodyFor 19 = .ok (.iconst 0, 1) := by decide +kernel
theorem dX1_bodyFor_20 : decode cX1_bodyFor 20 = .ok (.istore 4, 2) := by decide +kernel
theorem dX1_bodyFor_22 : decode cX1_bodyFor 22 = .ok (.iload 4, 2) := by decide +kernel
theorem dX1_bodyFor_24 : decode cX1_bodyFor 24 = .ok (.getstatic 56, 3) := by decide +kernel
theorem dX1_bodyFor_27 : decode cX1_bodyFor 27 = .ok (.arraylength, 1) := by decide +kernel
theorem dX1_bodyFor_28 : decode cX1_bodyFor 28 = .ok (.if_icmp .ge 21, 3) := by decide +kernel
theorem dX1_bodyFor_31 : decode cX1_bodyFor 31 = .ok (.aload_n 2, 1) := by decide +kernel
theorem dX1_bodyFor_32 : decode cX1_bodyFor 32 = .ok (.iload_n 3, 1) := by decide +kernel
theorem dX1_bodyFor_33 : decode cX1_bodyFor 33 = .ok (.iaload, 1) := by decide +kernel
theorem dX1_bodyFor_34 : decode cX1_bodyFor 34 = .ok (.ifCond .ne 15, 3) := by decide +kernel
theorem dX1_bodyFor_37 : decode cX1_bodyFor 37 = .ok (.getstatic 56, 3) := by decide +kernel
theorem dX1_bodyFor_40 : decode cX1_bodyFor 40 = .ok (.iload_n 3, 1) := by decide +kernel
theorem dX1_bodyFor_41 : decode cX1_bodyFor 41 = .ok (.iaload, 1) := by decide +kernel
theorem dX1_bodyFor_42 : decode cX1_bodyFor 42 = .ok (.istore_n 3, 1) := by decide +kernel
theorem dX1_bodyFor_43 : decode cX1_bodyFor 43 = .ok (.iinc 4 1, 3) := by decide +kernel
theorem dX1_bodyFor_46 : decode cX1_bodyFor 46 = .ok (.goto (-24), 3) := by decide +kernel
theorem dX1_bodyFor_49 : decode cX1_bodyFor 49 = .ok (.aload_n 2, 1) := by decide +kernel
theorem dX1_bodyFor_50 : decode cX1_bodyFor 50 = .ok (.iload_n 3, 1) := by decide +kernel
theorem dX1_bodyFor_51 : decode cX1_bodyFor 51 = .ok (.iaload, 1) := by decide +kernel
theorem dX1_bodyFor_52 : decode cX1_bodyFor 52 = .ok (.ireturn, 1) := by decide +kernel
theorem dX1_give_0 : decode cX1_give 0 = .ok (.iload_n 2, 1) := by decide +kernel
theorem dX1_give_1 : decode cX1_give 1 = .ok (.bipush 12, 2) := by decide +kernel
theorem dX1_give_3 : decode cX1_give 3 = .ok (.if_icmp .le 5, 3) := by decide +kernel
theorem dX1_give_6 : decode cX1_give 6 = .ok (.iconst 0, 1) := by decide +kernel
theorem dX1_give_7 : decode cX1_give 7 = .ok (.ireturn, 1) := by decide +kernel
theorem dX1_give_8 : decode cX1_give 8 = .ok (.aload_n 0, 1) := by decide +kernel
theorem dX1_give_9 : decode cX1_give 9 = .ok (.getfield 15, 3) := by decide +kernel
theorem dX1_give_12 : decode cX1_give 12 = .ok (.aload_n 0, 1) := by decide +kernel
theorem dX1_give_13 : decode cX1_give 13 = .ok (.getfield 9, 3) := by decide +kernel
theorem dX1_give_16 : decode cX1_give 16 = .ok (.arraylength, 1) := by decide +kernel
theorem dX1_give_17 : decode cX1_give 17 = .ok (.if_icmp .ge 20, 3) := by decide +kernel
theorem dX1_give_20 : decode cX1_give 20 = .ok (.aload_n 0, 1) := by decide +kernel
theorem dX1_give_21 : decode cX1_give 21 = .ok (.getfield 9, 3) := by decide +kernel
theorem dX1_give_24 : decode cX1_give 24 = .ok (.aload_n 0, 1) := by decide +kernel
theorem dX1_give_25 : decode cX1_give 25 = .ok (.dup, 1) := by decide +kernel
theorem dX1_give_26 : decode cX1_give 26 = .ok (.getfield 15, 3) := by decide +kernel
theorem dX1_give_29 : decode cX1_give 29 = .ok (.dup_x1, 1) := by decide +kernel
theorem dX1_give_30 : decode cX1_give 30 = .ok (.iconst 1, 1) := by decide +kernel
theorem dX1_give_31 : decode cX1_give 31 = .ok (.iadd, 1) := by decide +kernel
theorem dX1_give_32 : decode cX1_give 32 = .ok (.putfield 15, 3) := by decide +kernel
theorem dX1_give_35 : decode cX1_give 35 = .ok (.iload_n 1, 1) := by decide +kernel
theorem dX1_give_36 : decode cX1_give 36 = .ok (.iastore, 1) := by decide +kernel
theorem dX1_give_37 : decode cX1_give 37 = .ok (.iload_n 1, 1) := by decide +kernel
theorem dX1_give_38 : decode cX1_give 38 = .ok (.tableswitch 199 10 24 #[74, 79, 98, 109, 122, 199, 199, 199, 199, 199, 134, 139, 154, 168, 187], 74) := by decide +kernel
theorem dX1_give_112 : decode cX1_give 112 = .ok (.aload_n 0, 1) := by decide +kernel
theorem dX1_give_113 : decode cX1_give 113 = .ok (.getfield 25, 3) := by decide +kernel
theorem dX1_give_116 : decode cX1_give 116 = .ok (.ireturn, 1) := by decide +kernel
theorem dX1_give_117 : decode cX1_give 117 = .ok (.aload_n 0, 1) := by decide +kernel
theorem dX1_give_118 : decode cX1_give 118 = .ok (.bipush 10, 2) := by decide +kernel
theorem dX1_give_120 : decode cX1_give 120 = .ok (.iload_n 2, 1) := by decide +kernel
theorem dX1_give_121 : decode cX1_give 121 = .ok (.iconst 1, 1) := by decide +kernel
theorem dX1_give_122 : decode cX1_give 122 = .ok (.iadd, 1) := by decide +kernel
theorem dX1_give_123 : decode cX1_give 123 = .ok (.invokevirtual 47, 3) := by decide +kernel
theorem dX1_give_126 : decode cX1_give 126 = .ok (.aload_n 0, 1) := by decide +kernel
theorem dX1_give_127 : decode cX1_give 127 = .ok (.iconst 1, 1) := by decide +kernel
theorem dX1_give_128 : decode cX1_give 128 = .ok (.iload_n 2, 1) := by decide +kernel
theorem dX1_give_129 : decode cX1_give 129 = .ok (.iconst 1, 1) := by decide +kernel
theorem dX1_give_130 : decode cX1_give 130 = .ok (.iadd, 1) := by decide +kernel
theorem dX1_give_131 : decode cX1_give 131 = .ok (.invokevirtual 39, 3) := by decide +kernel
theorem dX1_give_134 : decode cX1_give 134 = .ok (.iadd, 1) := by decide +kernel
theorem dX1_give_135 : decode cX1_give 135 = .ok (.ireturn, 1) := by decide +kernel
theorem dX1_give_136 : decode cX1_give 136 = .ok (.aload_n 0, 1) := by decide +kernel
theorem dX1_give_137 : decode cX1_give 137 = .ok (.bipush 11, 2) := by decide +kernel
theorem dX1_give_139 : decode cX1_give 139 = .ok (.iload_n 2, 1) := by decide +kernel
theorem dX1_give_140 : decode cX1_give 140 = .ok (.iconst 1, 1) := by decide +kernel
theorem dX1_give_141 : decode cX1_give 141 = .ok (.iadd, 1) := by decide +kernel
theorem dX1_give_142 : decode cX1_give 142 = .ok (.invokevirtual 47, 3) := by decide +kernel
theorem dX1_give_145 : decode cX1_give 145 = .ok (.ineg, 1) := by decide +kernel
theorem dX1_give_146 : decode cX1_give 146 = .ok (.ireturn, 1) := by decide +kernel
theorem dX1_give_147 : decode cX1_give 147 = .ok (.aload_n 0, 1) := by decide +kernel
theorem dX1_give_148 : decode cX1_give 148 = .ok (.bipush 10, 2) := by decide +kernel
theorem dX1_give_150 : decode cX1_give 150 = .ok (.iload_n 2, 1) := by decide +kernel
theorem dX1_give_151 : decode cX1_give 151 = .ok (.iconst 1, 1) := by decide +kernel
theorem dX1_give_152 : decode cX1_give 152 = .ok (.iadd, 1) := by decide +kernel
theorem dX1_give_153 : decode cX1_give 153 = .ok (.invokevirtual 47, 3) := by decide +kernel
theorem dX1_give_156 : decode cX1_give 156 = .ok (.bipush 100, 2) := by decide +kernel
theorem dX1_give_158 : decode cX1_give 158 = .ok (.isub, 1) := by decide +kernel
theorem dX1_give_159 : decode cX1_give 159 = .ok (.ireturn, 1) := by decide +kernel
theorem dX1_give_160 : decode cX1_give 160 = .ok (.iconst 2, 1) := by decide +kernel
theorem dX1_give_161 : decode cX1_give 161 = .ok (.aload_n 0, 1) := by decide +kernel
theorem dX1_give_162 : decode cX1_give 162 = .ok (.bipush 13, 2) := by decide +kernel
theorem dX1_give_164 : decode cX1_give 164 = .ok (.iload_n 2, 1) := by decide +kernel
theorem dX1_give_165 : decode cX1_give 165 = .ok (.iconst 1, 1) := by decide +kernel
theorem dX1_give_166 : decode cX1_give 166 = .ok (.iadd, 1) := by decide +kernel
theorem dX1_give_167 : decode cX1_give 167 = .ok (.invokevirtual 47, 3) := by decide +kernel
theorem dX1_give_170 : decode cX1_give 170 = .ok (.imul, 1) := by decide +kernel
theorem dX1_give_171 : decode cX1_give 171 = .ok (.ireturn, 1) := by decide +kernel
theorem dX1_give_172 : decode cX1_give 172 = .ok (.aload_n 0, 1) := by decide +kernel
theorem dX1_give_173 : decode cX1_give 173 = .ok (.getfield 19, 3) := by decide +kernel
theorem dX1_give_176 : decode cX1_give 176 = .ok (.ireturn, 1) := by decide +kernel
theorem dX1_give_177 : decode cX1_give 177 = .ok (.aload_n 0, 1) := by decide +kernel
theorem dX1_give_178 : decode cX1_give 178 = .ok (.bipush 20, 2) := by decide +kernel
theorem dX1_give_180 : decode cX1_give 180 = .ok (.iload_n 2, 1) := by decide +kernel
theorem dX1_give_181 : decode cX1_give 181 = .ok (.iconst 1, 1) := by decide +kernel
theorem dX1_give_182 : decode cX1_give 182 = .ok (.iadd, 1) := by decide +kernel
theorem dX1_give_183 : decode cX1_give 183 = .ok (.invokevirtual 47, 3) := by decide +kernel
theorem dX1_give_186 : decode cX1_give 186 = .ok (.aload_n 0, 1) := by decide +kernel
theorem dX1_give_187 : decode cX1_give 187 = .ok (.getfield 28, 3) := by decide +kernel
theorem dX1_give_190 : decode cX1_give 190 = .ok (.iadd, 1) := by decide +kernel
theorem dX1_give_191 : decode cX1_give 191 = .ok (.ireturn, 1) := by decide +kernel
theorem dX1_give_192 : decode cX1_give 192 = .ok (.aload_n 0, 1) := by decide +kernel
theorem dX1_give_193 : decode cX1_give 193 = .ok (.bipush 21, 2) := by decide +kernel
theorem dX1_give_195 : decode cX1_give 195 = .ok (.iload_n 2, 1) := by decide +kernel
theorem dX1_give_196 : decode cX1_give 196 = .ok (.iconst 1, 1) := by decide +kernel
theorem dX1_give_197 : decode cX1_give 197 = .ok (.iadd, 1) := by decide +kernel
theorem dX1_give_198 : decode cX1_give 198 = .ok (.invokevirtual 47, 3) := by decide +kernel
theorem dX1_give_201 : decode cX1_give 201 = .ok (.sipush 1000, 3) := by decide +kernel
theorem dX1_give_204 : decode cX1_give 204 = .ok (.isub, 1) := by decide +kernel
theorem dX1_give_205 : decode cX1_give 205 = .ok (.ireturn, 1) := by decide +kernel
theorem dX1_give_206 : decode cX1_give 206 = .ok (.aload_n 0, 1) := by decide +kernel
theorem dX1_give_207 : decode cX1_give 207 = .ok (.bipush 20, 2) := by decide +kernel
theorem dX1_give_209 : decode cX1_give 209 = .ok (.iload_n 2, 1) := by decide +kernel
theorem dX1_give_210 : decode cX1_give 210 = .ok (.iconst 1, 1) := by decide +kernel
theorem dX1_give_211 : decode cX1_give 211 = .ok (.iadd, 1) := by decide +kernel
theorem dX1_give_212 : decode cX1_give 212 = .ok (.invokevirtual 47, 3) := by decide +kernel
theorem dX1_give_215 : decode cX1_give 215 = .ok (.aload_n 0, 1) := by decide +kernel
theorem dX1_give_216 : decode cX1_give 216 = .ok (.iconst 0, 1) := by decide +kernel
theorem dX1_give_217 : decode cX1_give 217 = .ok (.iload_n 2, 1) := by decide +kernel
theorem dX1_give_218 : decode cX1_give 218 = .ok (.iconst 1, 1) := by decide +kernel
theorem dX1_give_219 : decode cX1_give 219 = .ok (.iadd, 1) := by decide +kernel
theorem dX1_give_220 : decode cX1_give 220 = .ok (.invokevirtual 39, 3) := by decide +kernel
theorem dX1_give_223 : decode cX1_give 223 = .ok (.isub, 1) := by decide +kernel
theorem dX1_give_224 : decode cX1_give 224 = .ok (.ireturn, 1) := by decide +kernel
theorem dX1_give_225 : decode cX1_give 225 = .ok (.iconst 2, 1) := by decide +kernel
theorem dX1_give_226 : decode cX1_give 226 = .ok (.aload_n 0, 1) := by decide +kernel
theorem dX1_give_227 : decode cX1_give 227 = .ok (.bipush 21, 2) := by decide +kernel
theorem dX1_give_229 : decode cX1_give 229 = .ok (.iload_n 2, 1) := by decide +kernel
theorem dX1_give_230 : decode cX1_give 230 = .ok (.iconst 1, 1) := by decide +kernel
theorem dX1_give_231 : decode cX1_give 231 = .ok (.iadd, 1) := by decide +kernel
theorem dX1_give_232 : decode cX1_give 232 = .ok (.invokevirtual 47, 3) := by decide +kernel
theorem dX1_give_235 : decode cX1_give 235 = .ok (.imul, 1) := by decide +kernel
theorem dX1_give_236 : decode cX1_give 236 = .ok (.ireturn, 1) := by decide +kernel
theorem dX1_give_237 : decode cX1_give 237 = .ok (.iconst 0, 1) := by decide +kernel
theorem dX1_give_238 : decode cX1_give 238 = .ok (.ireturn, 1) := by decide +kernel
theorem dX2_init_0 : decode cX2_init 0 = .ok (.aload_n 0, 1) := by decide +kernel
theorem dX2_init_1 : decode cX2_init 1 = .ok (.invokespecial 3, 3) := by decide +kernel
theorem dX2_init_4 : decode cX2_init 4 = .ok (.aload_n 0, 1) := by decide +kernel
theorem dX2_init_5 : decode cX2_init 5 = .ok (.new 9, 3) := by decide +kernel
theorem dX2_init_8 : decode cX2_init 8 = .ok (.dup, 1) := by decide +kernel
theorem dX2_init_9 : decode cX2_init 9 = .ok (.invokespecial 11, 3) := by decide +kernel
theorem dX2_init_12 : decode cX2_init 12 = .ok (.putfield 12, 3) := by decide +kernel
theorem dX2_init_15 : decode cX2_init 15 = .ok (.aload_n 0, 1) := by decide +kernel
theorem dX2_init_16 : decode cX2_init 16 = .ok (.bipush 6, 2) := by decide +kernel
theorem dX2_init_18 : decode cX2_init 18 = .ok (.newarray .int, 2) := by decide +kernel
theorem dX2_init_20 : decode cX2_init 20 = .ok (.putfield 18, 3) := by decide +kernel
theorem dX2_init_23 : decode cX2_init 23 = .ok (.return_, 1) := by decide +kernel
theorem dX2_begin_0 : decode cX2_begin 0 = .ok (.aload_n 0, 1) := by decide +kernel
theorem dX2_begin_1 : decode cX2_begin 1 = .ok (.getfield 12, 3) := by decide +kernel
theorem dX2_begin_4 : decode cX2_begin 4 = .ok (.aload_n 1, 1) := by decide +kernel
theorem dX2_begin_5 : decode cX2_begin 5 = .ok (.invokevirtual 22, 3) := by decide +kernel
theorem dX2_begin_8 : decode cX2_begin 8 = .ok (.return_, 1) := by decide +kernel
theorem dX2_goFar_0 : decode cX2_goFar 0 = .ok (.iconst 0, 1) := by decide +kernel
theorem dX2_goFar_1 : decode cX2_goFar 1 = .ok (.istore_n 3, 1) := by decide +kernel
theorem dX2_goFar_2 : decode cX2_goFar 2 = .ok (.iload_n 3, 1) := by decide +kernel
theorem dX2_goFar_3 : decode cX2_goFar 3 = .ok (.iload_n 1, 1) := by decide +kernel
theorem dX2_goFar_4 : decode cX2_goFar 4 = .ok (.if_icmp .ge 17, 3) := by decide +kernel
theorem dX2_goFar_7 : decode cX2_goFar 7 = .ok (.aload_n 0, 1) := by decide +kernel
theorem dX2_goFar_8 : decode cX2_goFar 8 = .ok (.getfield 12, 3) := by decide +kernel
theorem dX2_goFar_11 : decode cX2_goFar 11 = .ok (.iload_n 2, 1) := by decide +kernel
theorem dX2_goFar_12 : decode cX2_goFar 12 = .ok (.invokevirtual 26, 3) := by decide +kernel
theorem dX2_goFar_15 : decode cX2_goFar 15 = .ok (.iinc 3 1, 3) := by decide +kernel
theorem dX2_goFar_18 : decode cX2_goFar 18 = .ok (.goto (-16), 3) := by decide +kernel
theorem dX2_goFar_21 : decode cX2_goFar 21 = .ok (.return_, 1) := by decide +kernel
theorem dX2_soonest_0 : decode cX2_soonest 0 = .ok (.aload_n 0, 1) := by decide +kernel
theorem dX2_soonest_1 : decode cX2_soonest 1 = .ok (.getfield 12, 3) := by decide +kernel
theorem dX2_soonest_4 : decode cX2_soonest 4 = .ok (.getfield 30, 3) := by decide +kernel
theorem dX2_soonest_7 : decode cX2_soonest 7 = .ok (.iconst 1, 1) := by decide +kernel
theorem dX2_soonest_8 : decode cX2_soonest 8 = .ok (.if_icmp .ge 6, 3) := by decide +kernel
theorem dX2_soonest_11 : decode cX2_soonest 11 = .ok (.ldc 34, 2) := by decide +kernel
theorem dX2_soonest_13 : decode cX2_soonest 13 = .ok (.ireturn, 1) := by decide +kernel
theorem dX2_soonest_14 : decode cX2_soonest 14 = .ok (.ldc2_w 35, 3) := by decide +kernel
theorem dX2_soonest_17 : decode cX2_soonest 17 = .ok (.lstore_n 3, 1) := by decide +kernel
theorem dX2_soonest_18 : decode cX2_soonest 18 = .ok (.iconst 0, 1) := by decide +kernel
theorem dX2_soonest_19 : decode cX2_soonest 19 = .ok (.istore 5, 2) := by decide +kernel
theorem dX2_soonest_21 : decode cX2_soonest 21 = .ok (.iload 5, 2) := by decide +kernel
theorem dX2_soonest_23 : decode cX2_soonest 23 = .ok (.iload_n 2, 1) := by decide +kernel
theorem dX2_soonest_24 : decode cX2_soonest 24 = .ok (.if_icmp .gt 69, 3) := by decide +kernel
theorem dX2_soonest_27 : decode cX2_soonest 27 = .ok (.aload_n 0, 1) := by decide +kernel
theorem dX2_soonest_28 : decode cX2_soonest 28 = .ok (.getfield 12, 3) := by decide +kernel
theorem dX2_soonest_31 : decode cX2_soonest 31 = .ok (.getfield 37, 3) := by decide +kernel
theorem dX2_soonest_34 : decode cX2_soonest 34 = .ok (.iload_n 1, 1) := by decide +kernel
theorem dX2_soonest_35 : decode cX2_soonest 35 = .ok (.iand, 1) := by decide +kernel
theorem dX2_soonest_36 : decode cX2_soonest 36 = .ok (.iload_n 1, 1) := by decide +kernel
theorem dX2_soonest_37 : decode cX2_soonest 37 = .ok (.if_icmp .ne 6, 3) := by decide +kernel
theorem dX2_soonest_40 : decode cX2_soonest 40 = .ok (.iload 5, 2) := by decide +kernel
theorem dX2_soonest_42 : decode cX2_soonest 42 = .ok (.ireturn, 1) := by decide +kernel
theorem dX2_soonest_43 : decode cX2_soonest 43 = .ok (.iload 5, 2) := by decide +kernel
theorem dX2_soonest_45 : decode cX2_soonest 45 = .ok (.aload_n 0, 1) := by decide +kernel
theorem dX2_soonest_46 : decode cX2_soonest 46 = .ok (.getfield 12, 3) := by decide +kernel
theorem dX2_soonest_49 : decode cX2_soonest 49 = .ok (.getfield 30, 3) := by decide +kernel
theorem dX2_soonest_52 : decode cX2_soonest 52 = .ok (.irem, 1) := by decide +kernel
theorem dX2_soonest_53 : decode cX2_soonest 53 = .ok (.ifCond .ne 26, 3) := by decide +kernel
theorem dX2_soonest_56 : decode cX2_soonest 56 = .ok (.aload_n 0, 1) := by decide +kernel
theorem dX2_soonest_57 : decode cX2_soonest 57 = .ok (.getfield 12, 3) := by decide +kernel
theorem dX2_soonest_60 : decode cX2_soonest 60 = .ok (.iload_n 1, 1) := by decide +kernel
theorem dX2_soonest_61 : decode cX2_soonest 61 = .ok (.invokevirtual 40, 3) := by decide +kernel
theorem dX2_soonest_64 : decode cX2_soonest 64 = .ok (.lstore 6, 2) := by decide +kernel
theorem dX2_soonest_66 : decode cX2_soonest 66 = .ok (.lload 6, 2) := by decide +kernel
theorem dX2_soonest_68 : decode cX2_soonest 68 = .ok (.lload_n 3, 1) := by decide +kernel
theorem dX2_soonest_69 : decode cX2_soonest 69 = .ok (.lcmp, 1) := by decide +kernel
theorem dX2_soonest_70 : decode cX2_soonest 70 = .ok (.ifCond .ne 6, 3) := by decide +kernel
theorem dX2_soonest_73 : decode cX2_soonest 73 = .ok (.ldc 34, 2) := by decide +kernel
theorem dX2_soonest_75 : decode cX2_soonest 75 = .ok (.ireturn, 1) := by decide +kernel
theorem dX2_soonest_76 : decode cX2_soonest 76 = .ok (.lload 6, 2) := by decide +kernel
theorem dX2_soonest_78 : decode cX2_soonest 78 = .ok (.lstore_n 3, 1) := by decide +kernel
theorem dX2_soonest_79 : decode cX2_soonest 79 = .ok (.aload_n 0, 1) := by decide +kernel
theorem dX2_soonest_80 : decode cX2_soonest 80 = .ok (.getfield 12, 3) := by decide +kernel
theorem dX2_soonest_83 : decode cX2_soonest 83 = .ok (.iload_n 1, 1) := by decide +kernel
theorem dX2_soonest_84 : decode cX2_soonest 84 = .ok (.invokevirtual 26, 3) := by decide +kernel
theorem dX2_soonest_87 : decode cX2_soonest 87 = .ok (.iinc 5 1, 3) := by decide +kernel
theorem dX2_soonest_90 : decode cX2_soonest 90 = .ok (.goto (-69), 3) := by decide +kernel
theorem dX2_soonest_93 : decode cX2_soonest 93 = .ok (.ldc 34, 2) := by decide +kernel
theorem dX2_soonest_95 : decode cX2_soonest 95 = .ok (.ireturn, 1) := by decide +kernel
theorem dX2_sleepless_0 : decode cX2_sleepless 0 = .ok (.aload_n 0, 1) := by decide +kernel
theorem dX2_sleepless_1 : decode cX2_sleepless 1 = .ok (.getfield 12, 3) := by decide +kernel
theorem dX2_sleepless_4 : decode cX2_sleepless 4 = .ok (.getfield 37, 3) := by decide +kernel
theorem dX2_sleepless_7 : decode cX2_sleepless 7 = .ok (.istore_n 1, 1) := by decide +kernel
theorem dX2_sleepless_8 : decode cX2_sleepless 8 = .ok (.iconst 1, 1) := by decide +kernel
theorem dX2_sleepless_9 : decode cX2_sleepless 9 = .ok (.istore_n 2, 1) := by decide +kernel
theorem dX2_sleepless_10 : decode cX2_sleepless 10 = .ok (.iload_n 2, 1) := by decide +kernel
theorem dX2_sleepless_11 : decode cX2_sleepless 11 = .ok (.bipush 99, 2) := by decide +kernel
theorem dX2_sleepless_13 : decode cX2_sleepless 13 = .ok (.if_icmp .gt 28, 3) := by decide +kernel
theorem dX2_sleepless_16 : decode cX2_sleepless 16 = .ok (.aload_n 0, 1) := by decide +kernel
theorem dX2_sleepless_17 : decode cX2_sleepless 17 = .ok (.getfield 12, 3) := by decide +kernel
theorem dX2_sleepless_20 : decode cX2_sleepless 20 = .ok (.bipush 31, 2) := by decide +kernel
theorem dX2_sleepless_22 : decode cX2_sleepless 22 = .ok (.invokevirtual 26, 3) := by decide +kernel
theorem dX2_sleepless_25 : decode cX2_sleepless 25 = .ok (.iload_n 1, 1) := by decide +kernel
theorem dX2_sleepless_26 : decode cX2_sleepless 26 = .ok (.aload_n 0, 1) := by decide +kernel
theorem dX2_sleepless_27 : decode cX2_sleepless 27 = .ok (.getfield 12, 3) := by decide +kernel
theorem dX2_sleepless_30 : decode cX2_sleepless 30 = .ok (.getfield 37, 3) := by decide +kernel
theorem dX2_sleepless_33 : decode cX2_sleepless 33 = .ok (.ior, 1) := by decide +kernel
theorem dX2_sleepless_34 : decode cX2_sleepless 34 = .ok (.istore_n 1, 1) := by decide +kernel
theorem dX2_sleepless_35 : decode cX2_sleepless 35 = .ok (.iinc 2 1, 3) := by decide +kernel
theorem dX2_sleepless_38 : decode cX2_sleepless 38 = .ok (.goto (-28), 3) := by decide +kernel
theorem dX2_sleepless_41 : decode cX2_sleepless 41 = .ok (.iconst 1, 1) := by decide +kernel
theorem dX2_sleepless_42 : decode cX2_sleepless 42 = .ok (.aload_n 0, 1) := by decide +kernel
theorem dX2_sleepless_43 : decode cX2_sleepless 43 = .ok (.getfield 12, 3) := by decide +kernel
theorem dX2_sleepless_46 : decode cX2_sleepless 46 = .ok (.getfield 44, 3) := by decide +kernel
theorem dX2_sleepless_49 : decode cX2_sleepless 49 = .ok (.ishl, 1) := by decide +kernel
theorem dX2_sleepless_50 : decode cX2_sleepless 50 = .ok (.iconst 1, 1) := by decide +kernel
theorem dX2_sleepless_51 : decode cX2_sleepless 51 = .ok (.isub, 1) := by decide +kernel
theorem dX2_sleepless_52 : decode cX2_sleepless 52 = .ok (.iload_n 1, 1) := by decide +kernel
theorem dX2_sleepless_53 : decode cX2_sleepless 53 = .ok (.iconst (-1), 1) := by decide +kernel
theorem dX2_sleepless_54 : decode cX2_sleepless 54 = .ok (.ixor, 1) := by decide +kernel
theorem dX2_sleepless_55 : decode cX2_sleepless 55 = .ok (.iand, 1) := by decide +kernel
theorem dX2_sleepless_56 : decode cX2_sleepless 56 = .ok (.ireturn, 1) := by decide +kernel
theorem dX2_calm_0 : decode cX2_calm 0 = .ok (.iconst 0, 1) := by decide +kernel
theorem dX2_calm_1 : decode cX2_calm 1 = .ok (.istore_n 2, 1) := by decide +kernel
theorem dX2_calm_2 : decode cX2_calm 2 = .ok (.iconst 0, 1) := by decide +kernel
theorem dX2_calm_3 : decode cX2_calm 3 = .ok (.istore_n 3, 1) := by decide +kernel
theorem dX2_calm_4 : decode cX2_calm 4 = .ok (.iload_n 3, 1) := by decide +kernel
theorem dX2_calm_5 : decode cX2_calm 5 = .ok (.bipush 105, 2) := by decide +kernel
theorem dX2_calm_7 : decode cX2_calm 7 = .ok (.if_icmp .gt 51, 3) := by decide +kernel
theorem dX2_calm_10 : decode cX2_calm 10 = .ok (.aload_n 0, 1) := by decide +kernel
theorem dX2_calm_11 : decode cX2_calm 11 = .ok (.getfield 12, 3) := by decide +kernel
theorem dX2_calm_14 : decode cX2_calm 14 = .ok (.getfield 37, 3) := by decide +kernel
theorem dX2_calm_17 : decode cX2_calm 17 = .ok (.invokestatic 47, 3) := by decide +kernel
theorem dX2_calm_20 : decode cX2_calm 20 = .ok (.iload_n 1, 1) := by decide +kernel
theorem dX2_calm_21 : decode cX2_calm 21 = .ok (.if_icmp .lt 9, 3) := by decide +kernel
theorem dX2_calm_24 : decode cX2_calm 24 = .ok (.iload_n 2, 1) := by decide +kernel
theorem dX2_calm_25 : decode cX2_calm 25 = .ok (.iconst 1, 1) := by decide +kernel
theorem dX2_calm_26 : decode cX2_calm 26 = .ok (.iadd, 1) := by decide +kernel
theorem dX2_calm_27 : decode cX2_calm 27 = .ok (.goto 4, 3) := by decide +kernel
theorem dX2_calm_30 : decode cX2_calm 30 = .ok (.iconst 0, 1) := by decide +kernel
theorem dX2_calm_31 : decode cX2_calm 31 = .ok (.istore_n 2, 1) := by decide +kernel
theorem dX2_calm_32 : decode cX2_calm 32 = .ok (.iload_n 2, 1) := by decide +kernel
theorem dX2_calm_33 : decode cX2_calm 33 = .ok (.bipush 6, 2) := by decide +kernel
theorem dX2_calm_35 : decode cX2_calm 35 = .ok (.if_icmp .le 8, 3) := by decide +kernel
theorem dX2_calm_38 : decode cX2_calm 38 = .ok (.iload_n 3, 1) := by decide +kernel
theorem dX2_calm_39 : decode cX2_calm 39 = .ok (.bipush 6, 2) := by decide +kernel
theorem dX2_calm_41 : decode cX2_calm 41 = .ok (.isub, 1) := by decide +kernel
theorem dX2_calm_42 : decode cX2_calm 42 = .ok (.ireturn, 1) := by decide +kernel
theorem dX2_calm_43 : decode cX2_calm 43 = .ok (.aload_n 0, 1) := by decide +kernel
theorem dX2_calm_44 : decode cX2_calm 44 = .ok (.getfield 12, 3) := by decide +kernel
theorem dX2_calm_47 : decode cX2_calm 47 = .ok (.bipush 31, 2) := by decide +kernel
theorem dX2_calm_49 : decode cX2_calm 49 = .ok (.invokevirtual 26, 3) := by decide +kernel
theorem dX2_calm_52 : decode cX2_calm 52 = .ok (.iinc 3 1, 3) := by decide +kernel
theorem dX2_calm_55 : decode cX2_calm 55 = .ok (.goto (-51), 3) := by decide +kernel
theorem dX2_calm_58 : decode cX2_calm 58 = .ok (.ldc 34, 2) := by decide +kernel
theorem dX2_calm_60 : decode cX2_calm 60 = .ok (.ireturn, 1) := by decide +kernel
theorem dX2_bestOrder_0 : decode cX2_bestOrder 0 = .ok (.ldc 34, 2) := by decide +kernel
theorem dX2_bestOrder_2 : decode cX2_bestOrder 2 = .ok (.istore_n 3, 1) := by decide +kernel
theorem dX2_bestOrder_3 : decode cX2_bestOrder 3 = .ok (.bipush 99, 2) := by decide +kernel
theorem dX2_bestOrder_5 : decode cX2_bestOrder 5 = .ok (.istore 4, 2) := by decide +kernel
theorem dX2_bestOrder_7 : decode cX2_bestOrder 7 = .ok (.aload_n 0, 1) := by decide +kernel
theorem dX2_bestOrder_8 : decode cX2_bestOrder 8 = .ok (.aload_n 1, 1) := by decide +kernel
theorem dX2_bestOrder_9 : decode cX2_bestOrder 9 = .ok (.invokevirtual 53, 3) := by decide +kernel
theorem dX2_bestOrder_12 : decode cX2_bestOrder 12 = .ok (.aload_n 0, 1) := by decide +kernel
theorem dX2_bestOrder_13 : decode cX2_bestOrder 13 = .ok (.getfield 12, 3) := by decide +kernel
theorem dX2_bestOrder_16 : decode cX2_bestOrder 16 = .ok (.invokevirtual 56, 3) := by decide +kernel
theorem dX2_bestOrder_19 : decode cX2_bestOrder 19 = .ok (.iconst 0, 1) := by decide +kernel
theorem dX2_bestOrder_20 : decode cX2_bestOrder 20 = .ok (.istore 5, 2) := by decide +kernel
theorem dX2_bestOrder_22 : decode cX2_bestOrder 22 = .ok (.iload 5, 2) := by decide +kernel
theorem dX2_bestOrder_24 : decode cX2_bestOrder 24 = .ok (.sipush 720, 3) := by decide +kernel
theorem dX2_bestOrder_27 : decode cX2_bestOrder 27 = .ok (.if_icmp .ge 78, 3) := by decide +kernel
theorem dX2_bestOrder_30 : decode cX2_bestOrder 30 = .ok (.iload 4, 2) := by decide +kernel
theorem dX2_bestOrder_32 : decode cX2_bestOrder 32 = .ok (.ifCond .lt 73, 3) := by decide +kernel
theorem dX2_bestOrder_35 : decode cX2_bestOrder 35 = .ok (.aload_n 0, 1) := by decide +kernel
theorem dX2_bestOrder_36 : decode cX2_bestOrder 36 = .ok (.getfield 12, 3) := by decide +kernel
theorem dX2_bestOrder_39 : decode cX2_bestOrder 39 = .ok (.aload_n 1, 1) := by decide +kernel
theorem dX2_bestOrder_40 : decode cX2_bestOrder 40 = .ok (.invokevirtual 59, 3) := by decide +kernel
theorem dX2_bestOrder_43 : decode cX2_bestOrder 43 = .ok (.aload_n 0, 1) := by decide +kernel
theorem dX2_bestOrder_44 : decode cX2_bestOrder 44 = .ok (.iload_n 2, 1) := by decide +kernel
theorem dX2_bestOrder_45 : decode cX2_bestOrder 45 = .ok (.iload 4, 2) := by decide +kernel
theorem dX2_bestOrder_47 : decode cX2_bestOrder 47 = .ok (.invokevirtual 62, 3) := by decide +kernel
theorem dX2_bestOrder_50 : decode cX2_bestOrder 50 = .ok (.istore 6, 2) := by decide +kernel
theorem dX2_bestOrder_52 : decode cX2_bestOrder 52 = .ok (.iload 6, 2) := by decide +kernel
theorem dX2_bestOrder_54 : decode cX2_bestOrder 54 = .ok (.ldc 34, 2) := by decide +kernel
theorem dX2_bestOrder_56 : decode cX2_bestOrder 56 = .ok (.if_icmp .eq 30, 3) := by decide +kernel
theorem dX2_bestOrder_59 : decode cX2_bestOrder 59 = .ok (.iload 6, 2) := by decide +kernel
theorem dX2_bestOrder_61 : decode cX2_bestOrder 61 = .ok (.istore_n 3, 1) := by decide +kernel
theorem dX2_bestOrder_62 : decode cX2_bestOrder 62 = .ok (.iload 6, 2) := by decide +kernel
theorem dX2_bestOrder_64 : decode cX2_bestOrder 64 = .ok (.iconst 1, 1) := by decide +kernel
theorem dX2_bestOrder_65 : decode cX2_bestOrder 65 = .ok (.isub, 1) := by decide +kernel
theorem dX2_bestOrder_66 : decode cX2_bestOrder 66 = .ok (.istore 4, 2) := by decide +kernel
theorem dX2_bestOrder_68 : decode cX2_bestOrder 68 = .ok (.aload_n 0, 1) := by decide +kernel
theorem dX2_bestOrder_69 : decode cX2_bestOrder 69 = .ok (.getfield 12, 3) := by decide +kernel
theorem dX2_bestOrder_72 : decode cX2_bestOrder 72 = .ok (.getfield 66, 3) := by decide +kernel
theorem dX2_bestOrder_75 : decode cX2_bestOrder 75 = .ok (.iconst 0, 1) := by decide +kernel
theorem dX2_bestOrder_76 : decode cX2_bestOrder 76 = .ok (.aload_n 0, 1) := by decide +kernel
theorem dX2_bestOrder_77 : decode cX2_bestOrder 77 = .ok (.getfield 18, 3) := by decide +kernel
theorem dX2_bestOrder_80 : decode cX2_bestOrder 80 = .ok (.iconst 0, 1) := by decide +kernel
theorem dX2_bestOrder_81 : decode cX2_bestOrder 81 = .ok (.bipush 6, 2) := by decide +kernel
theorem dX2_bestOrder_83 : decode cX2_bestOrder 83 = .ok (.invokestatic 69, 3) := by decide +kernel
theorem dX2_bestOrder_86 : decode cX2_bestOrder 86 = .ok (.aload_n 0, 1) := by decide +kernel
theorem dX2_bestOrder_87 : decode cX2_bestOrder 87 = .ok (.getfield 12, 3) := by decide +kernel
theorem dX2_bestOrder_90 : decode cX2_bestOrder 90 = .ok (.invokevirtual 75, 3) := by decide +kernel
theorem dX2_bestOrder_93 : decode cX2_bestOrder 93 = .ok (.ifCond .ne 6, 3) := by decide +kernel
theorem dX2_bestOrder_96 : decode cX2_bestOrder 96 = .ok (.goto 9, 3) := by decide +kernel
theorem dX2_bestOrder_99 : decode cX2_bestOrder 99 = .ok (.iinc 5 1, 3) := by decide +kernel
theorem dX2_bestOrder_102 : decode cX2_bestOrder 102 = .ok (.goto (-80), 3) := by decide +kernel
theorem dX2_bestOrder_105 : decode cX2_bestOrder 105 = .ok (.iload_n 3, 1) := by decide +kernel
theorem dX2_bestOrder_106 : decode cX2_bestOrder 106 = .ok (.ireturn, 1) := by decide +kernel
theorem dX2_smallestFlock_0 : decode cX2_smallestFlock 0 = .ok (.ldc 34, 2) := by decide +kernel
theorem dX2_smallestFlock_2 : decode cX2_smallestFlock 2 = .ok (.istore 4, 2) := by decide +kernel
theorem dX2_smallestFlock_4 : decode cX2_smallestFlock 4 = .ok (.bipush 7, 2) := by decide +kernel
theorem dX2_smallestFlock_6 : decode cX2_smallestFlock 6 = .ok (.istore 5, 2) := by decide +kernel
theorem dX2_smallestFlock_8 : decode cX2_smallestFlock 8 = .ok (.aload_n 0, 1) := by decide +kernel
theorem dX2_smallestFlock_9 : decode cX2_smallestFlock 9 = .ok (.aload_n 1, 1) := by decide +kernel
theorem dX2_smallestFlock_10 : decode cX2_smallestFlock 10 = .ok (.invokevirtual 53, 3) := by decide +kernel
theorem dX2_smallestFlock_13 : decode cX2_smallestFlock 13 = .ok (.iconst 1, 1) := by decide +kernel
theorem dX2_smallestFlock_14 : decode cX2_smallestFlock 14 = .ok (.istore 6, 2) := by decide +kernel
theorem dX2_smallestFlock_16 : decode cX2_smallestFlock 16 = .ok (.iload 6, 2) := by decide +kernel
theorem dX2_smallestFlock_18 : decode cX2_smallestFlock 18 = .ok (.iconst 1, 1) := by decide +kernel
theorem dX2_smallestFlock_19 : decode cX2_smallestFlock 19 = .ok (.aload_n 1, 1) := by decide +kernel
theorem dX2_smallestFlock_20 : decode cX2_smallestFlock 20 = .ok (.getfield 30, 3) := by decide +kernel
theorem dX2_smallestFlock_23 : decode cX2_smallestFlock 23 = .ok (.ishl, 1) := by decide +kernel
theorem dX2_smallestFlock_24 : decode cX2_smallestFlock 24 = .ok (.if_icmp .ge 65, 3) := by decide +kernel
theorem dX2_smallestFlock_27 : decode cX2_smallestFlock 27 = .ok (.iload 6, 2) := by decide +kernel
theorem dX2_smallestFlock_29 : decode cX2_smallestFlock 29 = .ok (.invokestatic 47, 3) := by decide +kernel
theorem dX2_smallestFlock_32 : decode cX2_smallestFlock 32 = .ok (.iload 5, 2) := by decide +kernel
theorem dX2_smallestFlock_34 : decode cX2_smallestFlock 34 = .ok (.if_icmp .lt 6, 3) := by decide +kernel
theorem dX2_smallestFlock_37 : decode cX2_smallestFlock 37 = .ok (.goto 46, 3) := by decide +kernel
theorem dX2_smallestFlock_40 : decode cX2_smallestFlock 40 = .ok (.aload_n 0, 1) := by decide +kernel
theorem dX2_smallestFlock_41 : decode cX2_smallestFlock 41 = .ok (.getfield 12, 3) := by decide +kernel
theorem dX2_smallestFlock_44 : decode cX2_smallestFlock 44 = .ok (.aload_n 1, 1) := by decide +kernel
theorem dX2_smallestFlock_45 : decode cX2_smallestFlock 45 = .ok (.invokevirtual 59, 3) := by decide +kernel
theorem dX2_smallestFlock_48 : decode cX2_smallestFlock 48 = .ok (.aload_n 0, 1) := by decide +kernel
theorem dX2_smallestFlock_49 : decode cX2_smallestFlock 49 = .ok (.getfield 12, 3) := by decide +kernel
theorem dX2_smallestFlock_52 : decode cX2_smallestFlock 52 = .ok (.iload 6, 2) := by decide +kernel
theorem dX2_smallestFlock_54 : decode cX2_smallestFlock 54 = .ok (.aload_n 1, 1) := by decide +kernel
theorem dX2_smallestFlock_55 : decode cX2_smallestFlock 55 = .ok (.invokevirtual 79, 3) := by decide +kernel
theorem dX2_smallestFlock_58 : decode cX2_smallestFlock 58 = .ok (.aload_n 0, 1) := by decide +kernel
theorem dX2_smallestFlock_59 : decode cX2_smallestFlock 59 = .ok (.iload_n 2, 1) := by decide +kernel
theorem dX2_smallestFlock_60 : decode cX2_smallestFlock 60 = .ok (.iload_n 3, 1) := by decide +kernel
theorem dX2_smallestFlock_61 : decode cX2_smallestFlock 61 = .ok (.invokevirtual 62, 3) := by decide +kernel
theorem dX2_smallestFlock_64 : decode cX2_smallestFlock 64 = .ok (.ldc 34, 2) := by decide +kernel
theorem dX2_smallestFlock_66 : decode cX2_smallestFlock 66 = .ok (.if_icmp .ne 6, 3) := by decide +kernel
theorem dX2_smallestFlock_69 : decode cX2_smallestFlock 69 = .ok (.goto 14, 3) := by decide +kernel
theorem dX2_smallestFlock_72 : decode cX2_smallestFlock 72 = .ok (.iload 6, 2) := by decide +kernel
theorem dX2_smallestFlock_74 : decode cX2_smallestFlock 74 = .ok (.istore 4, 2) := by decide +kernel
theorem dX2_smallestFlock_76 : decode cX2_smallestFlock 76 = .ok (.iload 6, 2) := by decide +kernel
theorem dX2_smallestFlock_78 : decode cX2_smallestFlock 78 = .ok (.invokestatic 47, 3) := by decide +kernel
theorem dX2_smallestFlock_81 : decode cX2_smallestFlock 81 = .ok (.istore 5, 2) := by decide +kernel
theorem dX2_smallestFlock_83 : decode cX2_smallestFlock 83 = .ok (.iinc 6 1, 3) := by decide +kernel
theorem dX2_smallestFlock_86 : decode cX2_smallestFlock 86 = .ok (.goto (-70), 3) := by decide +kernel
theorem dX2_smallestFlock_89 : decode cX2_smallestFlock 89 = .ok (.iload 4, 2) := by decide +kernel
theorem dX2_smallestFlock_91 : decode cX2_smallestFlock 91 = .ok (.ireturn, 1) := by decide +kernel
theorem dX2_strays_0 : decode cX2_strays 0 = .ok (.aload_n 1, 1) := by decide +kernel
theorem dX2_strays_1 : decode cX2_strays 1 = .ok (.getfield 30, 3) := by decide +kernel
theorem dX2_strays_4 : decode cX2_strays 4 = .ok (.iconst 2, 1) := by decide +kernel
theorem dX2_strays_5 : decode cX2_strays 5 = .ok (.if_icmp .ge 5, 3) := by decide +kernel
theorem dX2_strays_8 : decode cX2_strays 8 = .ok (.iconst 0, 1) := by decide +kernel
theorem dX2_strays_9 : decode cX2_strays 9 = .ok (.ireturn, 1) := by decide +kernel
theorem dX2_strays_10 : decode cX2_strays 10 = .ok (.iconst 0, 1) := by decide +kernel
theorem dX2_strays_11 : decode cX2_strays 11 = .ok (.istore 5, 2) := by decide +kernel
theorem dX2_strays_13 : decode cX2_strays 13 = .ok (.iconst 1, 1) := by decide +kernel
theorem dX2_strays_14 : decode cX2_strays 14 = .ok (.aload_n 1, 1) := by decide +kernel
theorem dX2_strays_15 : decode cX2_strays 15 = .ok (.getfield 30, 3) := by decide +kernel
theorem dX2_strays_18 : decode cX2_strays 18 = .ok (.ishl, 1) := by decide +kernel
theorem dX2_strays_19 : decode cX2_strays 19 = .ok (.iconst 1, 1) := by decide +kernel
theorem dX2_strays_20 : decode cX2_strays 20 = .ok (.isub, 1) := by decide +kernel
theorem dX2_strays_21 : decode cX2_strays 21 = .ok (.istore 6, 2) := by decide +kernel
theorem dX2_strays_23 : decode cX2_strays 23 = .ok (.aload_n 0, 1) := by decide +kernel
theorem dX2_strays_24 : decode cX2_strays 24 = .ok (.aload_n 1, 1) := by decide +kernel
theorem dX2_strays_25 : decode cX2_strays 25 = .ok (.invokevirtual 53, 3) := by decide +kernel
theorem dX2_strays_28 : decode cX2_strays 28 = .ok (.iconst 0, 1) := by decide +kernel
theorem dX2_strays_29 : decode cX2_strays 29 = .ok (.istore 7, 2) := by decide +kernel
theorem dX2_strays_31 : decode cX2_strays 31 = .ok (.iload 7, 2) := by decide +kernel
theorem dX2_strays_33 : decode cX2_strays 33 = .ok (.aload_n 1, 1) := by decide +kernel
theorem dX2_strays_34 : decode cX2_strays 34 = .ok (.getfield 30, 3) := by decide +kernel
theorem dX2_strays_37 : decode cX2_strays 37 = .ok (.if_icmp .ge 54, 3) := by decide +kernel
theorem dX2_strays_40 : decode cX2_strays 40 = .ok (.aload_n 0, 1) := by decide +kernel
theorem dX2_strays_41 : decode cX2_strays 41 = .ok (.getfield 12, 3) := by decide +kernel
theorem dX2_strays_44 : decode cX2_strays 44 = .ok (.aload_n 1, 1) := by decide +kernel
theorem dX2_strays_45 : decode cX2_strays 45 = .ok (.invokevirtual 59, 3) := by decide +kernel
theorem dX2_strays_48 : decode cX2_strays 48 = .ok (.aload_n 0, 1) := by decide +kernel
theorem dX2_strays_49 : decode cX2_strays 49 = .ok (.getfield 12, 3) := by decide +kernel
theorem dX2_strays_52 : decode cX2_strays 52 = .ok (.iload 6, 2) := by decide +kernel
theorem dX2_strays_54 : decode cX2_strays 54 = .ok (.iconst 1, 1) := by decide +kernel
theorem dX2_strays_55 : decode cX2_strays 55 = .ok (.iload 7, 2) := by decide +kernel
theorem dX2_strays_57 : decode cX2_strays 57 = .ok (.ishl, 1) := by decide +kernel
theorem dX2_strays_58 : decode cX2_strays 58 = .ok (.iconst (-1), 1) := by decide +kernel
theorem dX2_strays_59 : decode cX2_strays 59 = .ok (.ixor, 1) := by decide +kernel
theorem dX2_strays_60 : decode cX2_strays 60 = .ok (.iand, 1) := by decide +kernel
theorem dX2_strays_61 : decode cX2_strays 61 = .ok (.aload_n 1, 1) := by decide +kernel
theorem dX2_strays_62 : decode cX2_strays 62 = .ok (.invokevirtual 79, 3) := by decide +kernel
theorem dX2_strays_65 : decode cX2_strays 65 = .ok (.aload_n 0, 1) := by decide +kernel
theorem dX2_strays_66 : decode cX2_strays 66 = .ok (.aload_n 2, 1) := by decide +kernel
theorem dX2_strays_67 : decode cX2_strays 67 = .ok (.iload_n 3, 1) := by decide +kernel
theorem dX2_strays_68 : decode cX2_strays 68 = .ok (.iload 4, 2) := by decide +kernel
theorem dX2_strays_70 : decode cX2_strays 70 = .ok (.invokevirtual 83, 3) := by decide +kernel
theorem dX2_strays_73 : decode cX2_strays 73 = .ok (.ifCond .eq 12, 3) := by decide +kernel
theorem dX2_strays_76 : decode cX2_strays 76 = .ok (.iload 5, 2) := by decide +kernel
theorem dX2_strays_78 : decode cX2_strays 78 = .ok (.iconst 1, 1) := by decide +kernel
theorem dX2_strays_79 : decode cX2_strays 79 = .ok (.iload 7, 2) := by decide +kernel
theorem dX2_strays_81 : decode cX2_strays 81 = .ok (.ishl, 1) := by decide +kernel
theorem dX2_strays_82 : decode cX2_strays 82 = .ok (.ior, 1) := by decide +kernel
theorem dX2_strays_83 : decode cX2_strays 83 = .ok (.istore 5, 2) := by decide +kernel
theorem dX2_strays_85 : decode cX2_strays 85 = .ok (.iinc 7 1, 3) := by decide +kernel
theorem dX2_strays_88 : decode cX2_strays 88 = .ok (.goto (-57), 3) := by decide +kernel
theorem dX2_strays_91 : decode cX2_strays 91 = .ok (.iload 5, 2) := by decide +kernel
theorem dX2_strays_93 : decode cX2_strays 93 = .ok (.ireturn, 1) := by decide +kernel
theorem dX2_winds_0 : decode cX2_winds 0 = .ok (.iconst 0, 1) := by decide +kernel
theorem dX2_winds_1 : decode cX2_winds 1 = .ok (.istore 5, 2) := by decide +kernel
theorem dX2_winds_3 : decode cX2_winds 3 = .ok (.aload_n 0, 1) := by decide +kernel
theorem dX2_winds_4 : decode cX2_winds 4 = .ok (.aload_n 1, 1) := by decide +kernel
theorem dX2_winds_5 : decode cX2_winds 5 = .ok (.invokevirtual 53, 3) := by decide +kernel
theorem dX2_winds_8 : decode cX2_winds 8 = .ok (.iconst 0, 1) := by decide +kernel
theorem dX2_winds_9 : decode cX2_winds 9 = .ok (.istore 6, 2) := by decide +kernel
theorem dX2_winds_11 : decode cX2_winds 11 = .ok (.iload 6, 2) := by decide +kernel
theorem dX2_winds_13 : decode cX2_winds 13 = .ok (.bipush 10, 2) := by decide +kernel
theorem dX2_winds_15 : decode cX2_winds 15 = .ok (.if_icmp .ge 46, 3) := by decide +kernel
theorem dX2_winds_18 : decode cX2_winds 18 = .ok (.aload_n 0, 1) := by decide +kernel
theorem dX2_winds_19 : decode cX2_winds 19 = .ok (.getfield 12, 3) := by decide +kernel
theorem dX2_winds_22 : decode cX2_winds 22 = .ok (.aload_n 1, 1) := by decide +kernel
theorem dX2_winds_23 : decode cX2_winds 23 = .ok (.invokevirtual 59, 3) := by decide +kernel
theorem dX2_winds_26 : decode cX2_winds 26 = .ok (.aload_n 0, 1) := by decide +kernel
theorem dX2_winds_27 : decode cX2_winds 27 = .ok (.getfield 12, 3) := by decide +kernel
theorem dX2_winds_30 : decode cX2_winds 30 = .ok (.iload 6, 2) := by decide +kernel
theorem dX2_winds_32 : decode cX2_winds 32 = .ok (.putfield 87, 3) := by decide +kernel
theorem dX2_winds_35 : decode cX2_winds 35 = .ok (.aload_n 0, 1) := by decide +kernel
theorem dX2_winds_36 : decode cX2_winds 36 = .ok (.aload_n 2, 1) := by decide +kernel
theorem dX2_winds_37 : decode cX2_winds 37 = .ok (.iload_n 3, 1) := by decide +kernel
theorem dX2_winds_38 : decode cX2_winds 38 = .ok (.iload 4, 2) := by decide +kernel
theorem dX2_winds_40 : decode cX2_winds 40 = .ok (.invokevirtual 83, 3) := by decide +kernel
theorem dX2_winds_43 : decode cX2_winds 43 = .ok (.ifCond .eq 12, 3) := by decide +kernel
theorem dX2_winds_46 : decode cX2_winds 46 = .ok (.iload 5, 2) := by decide +kernel
theorem dX2_winds_48 : decode cX2_winds 48 = .ok (.iconst 1, 1) := by decide +kernel
theorem dX2_winds_49 : decode cX2_winds 49 = .ok (.iload 6, 2) := by decide +kernel
theorem dX2_winds_51 : decode cX2_winds 51 = .ok (.ishl, 1) := by decide +kernel
theorem dX2_winds_52 : decode cX2_winds 52 = .ok (.ior, 1) := by decide +kernel
theorem dX2_winds_53 : decode cX2_winds 53 = .ok (.istore 5, 2) := by decide +kernel
theorem dX2_winds_55 : decode cX2_winds 55 = .ok (.iinc 6 1, 3) := by decide +kernel
theorem dX2_winds_58 : decode cX2_winds 58 = .ok (.goto (-47), 3) := by decide +kernel
theorem dX2_winds_61 : decode cX2_winds 61 = .ok (.iload 5, 2) := by decide +kernel
theorem dX2_winds_63 : decode cX2_winds 63 = .ok (.ireturn, 1) := by decide +kernel
theorem dX2_kinds_0 : decode cX2_kinds 0 = .ok (.iconst 0, 1) := by decide +kernel
theorem dX2_kinds_1 : decode cX2_kinds 1 = .ok (.istore 6, 2) := by decide +kernel
theorem dX2_kinds_3 : decode cX2_kinds 3 = .ok (.aload_n 0, 1) := by decide +kernel
theorem dX2_kinds_4 : decode cX2_kinds 4 = .ok (.aload_n 1, 1) := by decide +kernel
theorem dX2_kinds_5 : decode cX2_kinds 5 = .ok (.invokevirtual 53, 3) := by decide +kernel
theorem dX2_kinds_8 : decode cX2_kinds 8 = .ok (.iconst 1, 1) := by decide +kernel
theorem dX2_kinds_9 : decode cX2_kinds 9 = .ok (.istore 7, 2) := by decide +kernel
theorem dX2_kinds_11 : decode cX2_kinds 11 = .ok (.iload 7, 2) := by decide +kernel
theorem dX2_kinds_13 : decode cX2_kinds 13 = .ok (.iconst 5, 1) := by decide +kernel
theorem dX2_kinds_14 : decode cX2_kinds 14 = .ok (.if_icmp .gt 49, 3) := by decide +kernel
theorem dX2_kinds_17 : decode cX2_kinds 17 = .ok (.aload_n 0, 1) := by decide +kernel
theorem dX2_kinds_18 : decode cX2_kinds 18 = .ok (.getfield 12, 3) := by decide +kernel
theorem dX2_kinds_21 : decode cX2_kinds 21 = .ok (.aload_n 1, 1) := by decide +kernel
theorem dX2_kinds_22 : decode cX2_kinds 22 = .ok (.invokevirtual 59, 3) := by decide +kernel
theorem dX2_kinds_25 : decode cX2_kinds 25 = .ok (.aload_n 0, 1) := by decide +kernel
theorem dX2_kinds_26 : decode cX2_kinds 26 = .ok (.getfield 12, 3) := by decide +kernel
theorem dX2_kinds_29 : decode cX2_kinds 29 = .ok (.getfield 90, 3) := by decide +kernel
theorem dX2_kinds_32 : decode cX2_kinds 32 = .ok (.iload_n 2, 1) := by decide +kernel
theorem dX2_kinds_33 : decode cX2_kinds 33 = .ok (.iload 7, 2) := by decide +kernel
theorem dX2_kinds_35 : decode cX2_kinds 35 = .ok (.iastore, 1) := by decide +kernel
theorem dX2_kinds_36 : decode cX2_kinds 36 = .ok (.aload_n 0, 1) := by decide +kernel
theorem dX2_kinds_37 : decode cX2_kinds 37 = .ok (.aload_n 3, 1) := by decide +kernel
theorem dX2_kinds_38 : decode cX2_kinds 38 = .ok (.iload 4, 2) := by decide +kernel
theorem dX2_kinds_40 : decode cX2_kinds 40 = .ok (.iload 5, 2) := by decide +kernel
theorem dX2_kinds_42 : decode cX2_kinds 42 = .ok (.invokevirtual 83, 3) := by decide +kernel
theorem dX2_kinds_45 : decode cX2_kinds 45 = .ok (.ifCond .eq 12, 3) := by decide +kernel
theorem dX2_kinds_48 : decode cX2_kinds 48 = .ok (.iload 6, 2) := by decide +kernel
theorem dX2_kinds_50 : decode cX2_kinds 50 = .ok (.iconst 1, 1) := by decide +kernel
theorem dX2_kinds_51 : decode cX2_kinds 51 = .ok (.iload 7, 2) := by decide +kernel
theorem dX2_kinds_53 : decode cX2_kinds 53 = .ok (.ishl, 1) := by decide +kernel
theorem dX2_kinds_54 : decode cX2_kinds 54 = .ok (.ior, 1) := by decide +kernel
theorem dX2_kinds_55 : decode cX2_kinds 55 = .ok (.istore 6, 2) := by decide +kernel
theorem dX2_kinds_57 : decode cX2_kinds 57 = .ok (.iinc 7 1, 3) := by decide +kernel
theorem dX2_kinds_60 : decode cX2_kinds 60 = .ok (.goto (-49), 3) := by decide +kernel
theorem dX2_kinds_63 : decode cX2_kinds 63 = .ok (.iload 6, 2) := by decide +kernel
theorem dX2_kinds_65 : decode cX2_kinds 65 = .ok (.ireturn, 1) := by decide +kernel
theorem dX2_goesSo_0 : decode cX2_goesSo 0 = .ok (.iconst 0, 1) := by decide +kernel
theorem dX2_goesSo_1 : decode cX2_goesSo 1 = .ok (.istore 4, 2) := by decide +kernel
theorem dX2_goesSo_3 : decode cX2_goesSo 3 = .ok (.iload 4, 2) := by decide +kernel
theorem dX2_goesSo_5 : decode cX2_goesSo 5 = .ok (.iload_n 3, 1) := by decide +kernel
theorem dX2_goesSo_6 : decode cX2_goesSo 6 = .ok (.if_icmp .ge 42, 3) := by decide +kernel
theorem dX2_goesSo_9 : decode cX2_goesSo 9 = .ok (.aload_n 0, 1) := by decide +kernel
theorem dX2_goesSo_10 : decode cX2_goesSo 10 = .ok (.getfield 12, 3) := by decide +kernel
theorem dX2_goesSo_13 : decode cX2_goesSo 13 = .ok (.bipush 31, 2) := by decide +kernel
theorem dX2_goesSo_15 : decode cX2_goesSo 15 = .ok (.invokevirtual 26, 3) := by decide +kernel
theorem dX2_goesSo_18 : decode cX2_goesSo 18 = .ok (.aload_n 0, 1) := by decide +kernel
theorem dX2_goesSo_19 : decode cX2_goesSo 19 = .ok (.getfield 12, 3) := by decide +kernel
theorem dX2_goesSo_22 : decode cX2_goesSo 22 = .ok (.getfield 37, 3) := by decide +kernel
theorem dX2_goesSo_25 : decode cX2_goesSo 25 = .ok (.invokestatic 47, 3) := by decide +kernel
theorem dX2_goesSo_28 : decode cX2_goesSo 28 = .ok (.aload_n 1, 1) := by decide +kernel
theorem dX2_goesSo_29 : decode cX2_goesSo 29 = .ok (.getfield 93, 3) := by decide +kernel
theorem dX2_goesSo_32 : decode cX2_goesSo 32 = .ok (.iload_n 2, 1) := by decide +kernel
theorem dX2_goesSo_33 : decode cX2_goesSo 33 = .ok (.iload 4, 2) := by decide +kernel
theorem dX2_goesSo_35 : decode cX2_goesSo 35 = .ok (.iadd, 1) := by decide +kernel
theorem dX2_goesSo_36 : decode cX2_goesSo 36 = .ok (.iaload, 1) := by decide +kernel
theorem dX2_goesSo_37 : decode cX2_goesSo 37 = .ok (.if_icmp .eq 5, 3) := by decide +kernel
theorem dX2_goesSo_40 : decode cX2_goesSo 40 = .ok (.iconst 0, 1) := by decide +kernel
theorem dX2_goesSo_41 : decode cX2_goesSo 41 = .ok (.ireturn, 1) := by decide +kernel
theorem dX2_goesSo_42 : decode cX2_goesSo 42 = .ok (.iinc 4 1, 3) := by decide +kernel
theorem dX2_goesSo_45 : decode cX2_goesSo 45 = .ok (.goto (-42), 3) := by decide +kernel
theorem dX2_goesSo_48 : decode cX2_goesSo 48 = .ok (.iconst 1, 1) := by decide +kernel
theorem dX2_goesSo_49 : decode cX2_goesSo 49 = .ok (.ireturn, 1) := by decide +kernel
theorem dX2_chance_0 : decode cX2_chance 0 = .ok (.aload_n 1, 1) := by decide +kernel
theorem dX2_chance_1 : decode cX2_chance 1 = .ok (.getfield 66, 3) := by decide +kernel
theorem dX2_chance_4 : decode cX2_chance 4 = .ok (.iconst 0, 1) := by decide +kernel
theorem dX2_chance_5 : decode cX2_chance 5 = .ok (.iaload, 1) := by decide +kernel
theorem dX2_chance_6 : decode cX2_chance 6 = .ok (.istore 5, 2) := by decide +kernel
theorem dX2_chance_8 : decode cX2_chance 8 = .ok (.iconst 0, 1) := by decide +kernel
theorem dX2_chance_9 : decode cX2_chance 9 = .ok (.istore 6, 2) := by decide +kernel
theorem dX2_chance_11 : decode cX2_chance 11 = .ok (.aload_n 0, 1) := by decide +kernel
theorem dX2_chance_12 : decode cX2_chance 12 = .ok (.aload_n 1, 1) := by decide +kernel
theorem dX2_chance_13 : decode cX2_chance 13 = .ok (.invokevirtual 53, 3) := by decide +kernel
theorem dX2_chance_16 : decode cX2_chance 16 = .ok (.iconst 1, 1) := by decide +kernel
theorem dX2_chance_17 : decode cX2_chance 17 = .ok (.istore 7, 2) := by decide +kernel
theorem dX2_chance_19 : decode cX2_chance 19 = .ok (.iload 7, 2) := by decide +kernel
theorem dX2_chance_21 : decode cX2_chance 21 = .ok (.iconst 1, 1) := by decide +kernel
theorem dX2_chance_22 : decode cX2_chance 22 = .ok (.aload_n 1, 1) := by decide +kernel
theorem dX2_chance_23 : decode cX2_chance 23 = .ok (.getfield 30, 3) := by decide +kernel
theorem dX2_chance_26 : decode cX2_chance 26 = .ok (.ishl, 1) := by decide +kernel
theorem dX2_chance_27 : decode cX2_chance 27 = .ok (.if_icmp .ge 77, 3) := by decide +kernel
theorem dX2_chance_30 : decode cX2_chance 30 = .ok (.iload 7, 2) := by decide +kernel
theorem dX2_chance_32 : decode cX2_chance 32 = .ok (.iload 5, 2) := by decide +kernel
theorem dX2_chance_34 : decode cX2_chance 34 = .ok (.ishr, 1) := by decide +kernel
theorem dX2_chance_35 : decode cX2_chance 35 = .ok (.iconst 1, 1) := by decide +kernel
theorem dX2_chance_36 : decode cX2_chance 36 = .ok (.iand, 1) := by decide +kernel
theorem dX2_chance_37 : decode cX2_chance 37 = .ok (.ifCond .ne 6, 3) := by decide +kernel
theorem dX2_chance_40 : decode cX2_chance 40 = .ok (.goto 58, 3) := by decide +kernel
theorem dX2_chance_43 : decode cX2_chance 43 = .ok (.aload_n 0, 1) := by decide +kernel
theorem dX2_chance_44 : decode cX2_chance 44 = .ok (.getfield 12, 3) := by decide +kernel
theorem dX2_chance_47 : decode cX2_chance 47 = .ok (.aload_n 1, 1) := by decide +kernel
theorem dX2_chance_48 : decode cX2_chance 48 = .ok (.invokevirtual 59, 3) := by decide +kernel
theorem dX2_chance_51 : decode cX2_chance 51 = .ok (.aload_n 0, 1) := by decide +kernel
theorem dX2_chance_52 : decode cX2_chance 52 = .ok (.getfield 12, 3) := by decide +kernel
theorem dX2_chance_55 : decode cX2_chance 55 = .ok (.iload 7, 2) := by decide +kernel
theorem dX2_chance_57 : decode cX2_chance 57 = .ok (.aload_n 1, 1) := by decide +kernel
theorem dX2_chance_58 : decode cX2_chance 58 = .ok (.invokevirtual 79, 3) := by decide +kernel
theorem dX2_chance_61 : decode cX2_chance 61 = .ok (.aload_n 0, 1) := by decide +kernel
theorem dX2_chance_62 : decode cX2_chance 62 = .ok (.iload_n 3, 1) := by decide +kernel
theorem dX2_chance_63 : decode cX2_chance 63 = .ok (.iconst 1, 1) := by decide +kernel
theorem dX2_chance_64 : decode cX2_chance 64 = .ok (.iload_n 2, 1) := by decide +kernel
theorem dX2_chance_65 : decode cX2_chance 65 = .ok (.ishl, 1) := by decide +kernel
theorem dX2_chance_66 : decode cX2_chance 66 = .ok (.invokevirtual 98, 3) := by decide +kernel
theorem dX2_chance_69 : decode cX2_chance 69 = .ok (.aload_n 0, 1) := by decide +kernel
theorem dX2_chance_70 : decode cX2_chance 70 = .ok (.getfield 12, 3) := by decide +kernel
theorem dX2_chance_73 : decode cX2_chance 73 = .ok (.iload_n 2, 1) := by decide +kernel
theorem dX2_chance_74 : decode cX2_chance 74 = .ok (.invokevirtual 102, 3) := by decide +kernel
theorem dX2_chance_77 : decode cX2_chance 77 = .ok (.ifCond .eq 21, 3) := by decide +kernel
theorem dX2_chance_80 : decode cX2_chance 80 = .ok (.iload 6, 2) := by decide +kernel
theorem dX2_chance_82 : decode cX2_chance 82 = .ok (.iload 7, 2) := by decide +kernel
theorem dX2_chance_84 : decode cX2_chance 84 = .ok (.aload_n 1, 1) := by decide +kernel
theorem dX2_chance_85 : decode cX2_chance 85 = .ok (.getfield 30, 3) := by decide +kernel
theorem dX2_chance_88 : decode cX2_chance 88 = .ok (.iload 5, 2) := by decide +kernel
theorem dX2_chance_90 : decode cX2_chance 90 = .ok (.iload 4, 2) := by decide +kernel
theorem dX2_chance_92 : decode cX2_chance 92 = .ok (.invokestatic 106, 3) := by decide +kernel
theorem dX2_chance_95 : decode cX2_chance 95 = .ok (.iadd, 1) := by decide +kernel
theorem dX2_chance_96 : decode cX2_chance 96 = .ok (.istore 6, 2) := by decide +kernel
theorem dX2_chance_98 : decode cX2_chance 98 = .ok (.iinc 7 1, 3) := by decide +kernel
theorem dX2_chance_101 : decode cX2_chance 101 = .ok (.goto (-82), 3) := by decide +kernel
theorem dX2_chance_104 : decode cX2_chance 104 = .ok (.iload 6, 2) := by decide +kernel
theorem dX2_chance_106 : decode cX2_chance 106 = .ok (.ireturn, 1) := by decide +kernel
theorem dX2_weight_0 : decode cX2_weight 0 = .ok (.iconst 1, 1) := by decide +kernel
theorem dX2_weight_1 : decode cX2_weight 1 = .ok (.istore 4, 2) := by decide +kernel
theorem dX2_weight_3 : decode cX2_weight 3 = .ok (.iconst 0, 1) := by decide +kernel
theorem dX2_weight_4 : decode cX2_weight 4 = .ok (.istore 5, 2) := by decide +kernel
theorem dX2_weight_6 : decode cX2_weight 6 = .ok (.iload 5, 2) := by decide +kernel
theorem dX2_weight_8 : decode cX2_weight 8 = .ok (.iload_n 1, 1) := by decide +kernel
theorem dX2_weight_9 : decode cX2_weight 9 = .ok (.if_icmp .ge 37, 3) := by decide +kernel
theorem dX2_weight_12 : decode cX2_weight 12 = .ok (.iload 5, 2) := by decide +kernel
theorem dX2_weight_14 : decode cX2_weight 14 = .ok (.iload_n 2, 1) := by decide +kernel
theorem dX2_weight_15 : decode cX2_weight 15 = .ok (.if_icmp .eq 25, 3) := by decide +kernel
theorem dX2_weight_18 : decode cX2_weight 18 = .ok (.iload 4, 2) := by decide +kernel
theorem dX2_weight_20 : decode cX2_weight 20 = .ok (.iload_n 0, 1) := by decide +kernel
theorem dX2_weight_21 : decode cX2_weight 21 = .ok (.iload 5, 2) := by decide +kernel
theorem dX2_weight_23 : decode cX2_weight 23 = .ok (.ishr, 1) := by decide +kernel
theorem dX2_weight_24 : decode cX2_weight 24 = .ok (.iconst 1, 1) := by decide +kernel
theorem dX2_weight_25 : decode cX2_weight 25 = .ok (.iand, 1) := by decide +kernel
theorem dX2_weight_26 : decode cX2_weight 26 = .ok (.ifCond .ne 7, 3) := by decide +kernel
theorem dX2_weight_29 : decode cX2_weight 29 = .ok (.iload_n 3, 1) := by decide +kernel
theorem dX2_weight_30 : decode cX2_weight 30 = .ok (.goto 7, 3) := by decide +kernel
theorem dX2_weight_33 : decode cX2_weight 33 = .ok (.bipush 10, 2) := by decide +kernel
theorem dX2_weight_35 : decode cX2_weight 35 = .ok (.iload_n 3, 1) := by decide +kernel
theorem dX2_weight_36 : decode cX2_weight 36 = .ok (.isub, 1) := by decide +kernel
theorem dX2_weight_37 : decode cX2_weight 37 = .ok (.imul, 1) := by decide +kernel
theorem dX2_weight_38 : decode cX2_weight 38 = .ok (.istore 4, 2) := by decide +kernel
theorem dX2_weight_40 : decode cX2_weight 40 = .ok (.iinc 5 1, 3) := by decide +kernel
theorem dX2_weight_43 : decode cX2_weight 43 = .ok (.goto (-37), 3) := by decide +kernel
theorem dX2_weight_46 : decode cX2_weight 46 = .ok (.iload 4, 2) := by decide +kernel
theorem dX2_weight_48 : decode cX2_weight 48 = .ok (.ireturn, 1) := by decide +kernel
theorem dX3_init_0 : decode cX3_init 0 = .ok (.aload_n 0, 1) := by decide +kernel
theorem dX3_init_1 : decode cX3_init 1 = .ok (.invokespecial 3, 3) := by decide +kernel
theorem dX3_init_4 : decode cX3_init 4 = .ok (.aload_n 0, 1) := by decide +kernel
theorem dX3_init_5 : decode cX3_init 5 = .ok (.bipush 100, 2) := by decide +kernel
theorem dX3_init_7 : decode cX3_init 7 = .ok (.newarray .int, 2) := by decide +kernel
theorem dX3_init_9 : decode cX3_init 9 = .ok (.putfield 11, 3) := by decide +kernel
theorem dX3_init_12 : decode cX3_init 12 = .ok (.aload_n 0, 1) := by decide +kernel
theorem dX3_init_13 : decode cX3_init 13 = .ok (.iconst 0, 1) := by decide +kernel
theorem dX3_init_14 : decode cX3_init 14 = .ok (.putfield 15, 3) := by decide +kernel
theorem dX3_init_17 : decode cX3_init 17 = .ok (.aload_n 0, 1) := by decide +kernel
theorem dX3_init_18 : decode cX3_init 18 = .ok (.iconst 0, 1) := by decide +kernel
theorem dX3_init_19 : decode cX3_init 19 = .ok (.putfield 19, 3) := by decide +kernel
theorem dX3_init_22 : decode cX3_init 22 = .ok (.aload_n 0, 1) := by decide +kernel
theorem dX3_init_23 : decode cX3_init 23 = .ok (.iconst 0, 1) := by decide +kernel
theorem dX3_init_24 : decode cX3_init 24 = .ok (.putfield 22, 3) := by decide +kernel
theorem dX3_init_27 : decode cX3_init 27 = .ok (.aload_n 0, 1) := by decide +kernel
theorem dX3_init_28 : decode cX3_init 28 = .ok (.iconst 0, 1) := by decide +kernel
theorem dX3_init_29 : decode cX3_init 29 = .ok (.putfield 25, 3) := by decide +kernel
theorem dX3_init_32 : decode cX3_init 32 = .ok (.aload_n 0, 1) := by decide +kernel
theorem dX3_init_33 : decode cX3_init 33 = .ok (.iconst 0, 1) := by decide +kernel
theorem dX3_init_34 : decode cX3_init 34 = .ok (.putfield 29, 3) := by decide +kernel
theorem dX3_init_37 : decode cX3_init 37 = .ok (.aload_n 0, 1) := by decide +kernel
theorem dX3_init_38 : decode cX3_init 38 = .ok (.iconst 0, 1) := by decide +kernel
theorem dX3_init_39 : decode cX3_init 39 = .ok (.putfield 32, 3) := by decide +kernel
theorem dX3_init_42 : decode cX3_init 42 = .ok (.aload_n 0, 1) := by decide +kernel
theorem dX3_init_43 : decode cX3_init 43 = .ok (.iconst (-1), 1) := by decide +kernel
theorem dX3_init_44 : decode cX3_init 44 = .ok (.putfield 35, 3) := by decide +kernel
theorem dX3_init_47 : decode cX3_init 47 = .ok (.aload_n 0, 1) := by decide +kernel
theorem dX3_init_48 : decode cX3_init 48 = .ok (.iconst 0, 1) := by decide +kernel
theorem dX3_init_49 : decode cX3_init 49 = .ok (.putfield 38, 3) := by decide +kernel
theorem dX3_init_52 : decode cX3_init 52 = .ok (.return_, 1) := by decide +kernel
theorem dX3_append_0 : decode cX3_append 0 = .ok (.aload_n 0, 1) := by decide +kernel
theorem dX3_append_1 : decode cX3_append 1 = .ok (.getfield 15, 3) := by decide +kernel
theorem dX3_append_4 : decode cX3_append 4 = .ok (.bipush 100, 2) := by decide +kernel
theorem dX3_append_6 : decode cX3_append 6 = .ok (.if_icmp .ge 20, 3) := by decide +kernel
theorem dX3_append_9 : decode cX3_append 9 = .ok (.aload_n 0, 1) := by decide +kernel
theorem dX3_append_10 : decode cX3_append 10 = .ok (.getfield 11, 3) := by decide +kernel
theorem dX3_append_13 : decode cX3_append 13 = .ok (.aload_n 0, 1) := by decide +kernel
theorem dX3_append_14 : decode cX3_append 14 = .ok (.dup, 1) := by decide +kernel
theorem dX3_append_15 : decode cX3_append 15 = .ok (.getfield 15, 3) := by decide +kernel
theorem dX3_append_18 : decode cX3_append 18 = .ok (.dup_x1, 1) := by decide +kernel
theorem dX3_append_19 : decode cX3_append 19 = .ok (.iconst 1, 1) := by decide +kernel
theorem dX3_append_20 : decode cX3_append 20 = .ok (.iadd, 1) := by decide +kernel
theorem dX3_append_21 : decode cX3_append 21 = .ok (.putfield 15, 3) := by decide +kernel
theorem dX3_append_24 : decode cX3_append 24 = .ok (.iload_n 1, 1) := by decide +kernel
theorem dX3_append_25 : decode cX3_append 25 = .ok (.iastore, 1) := by decide +kernel
theorem dX3_append_26 : decode cX3_append 26 = .ok (.return_, 1) := by decide +kernel
theorem dX3_reads_0 : decode cX3_reads 0 = .ok (.aload_n 1, 1) := by decide +kernel
theorem dX3_reads_1 : decode cX3_reads 1 = .ok (.invokevirtual 41, 3) := by decide +kernel
theorem dX3_reads_4 : decode cX3_reads 4 = .ok (.aload_n 0, 1) := by decide +kernel
theorem dX3_reads_5 : decode cX3_reads 5 = .ok (.iconst 0, 1) := by decide +kernel
theorem dX3_reads_6 : decode cX3_reads 6 = .ok (.putfield 25, 3) := by decide +kernel
theorem dX3_reads_9 : decode cX3_reads 9 = .ok (.aload_n 0, 1) := by decide +kernel
theorem dX3_reads_10 : decode cX3_reads 10 = .ok (.iconst 0, 1) := by decide +kernel
theorem dX3_reads_11 : decode cX3_reads 11 = .ok (.putfield 29, 3) := by decide +kernel
theorem dX3_reads_14 : decode cX3_reads 14 = .ok (.aload_n 0, 1) := by decide +kernel
theorem dX3_reads_15 : decode cX3_reads 15 = .ok (.invokevirtual 46, 3) := by decide +kernel
theorem dX3_reads_18 : decode cX3_reads 18 = .ok (.aload_n 0, 1) := by decide +kernel
theorem dX3_reads_19 : decode cX3_reads 19 = .ok (.aload_n 1, 1) := by decide +kernel
theorem dX3_reads_20 : decode cX3_reads 20 = .ok (.invokevirtual 49, 3) := by decide +kernel
theorem dX3_reads_23 : decode cX3_reads 23 = .ok (.aload_n 0, 1) := by decide +kernel
theorem dX3_reads_24 : decode cX3_reads 24 = .ok (.aload_n 1, 1) := by decide +kernel
theorem dX3_reads_25 : decode cX3_reads 25 = .ok (.invokevirtual 53, 3) := by decide +kernel
theorem dX3_reads_28 : decode cX3_reads 28 = .ok (.aload_n 0, 1) := by decide +kernel
theorem dX3_reads_29 : decode cX3_reads 29 = .ok (.aload_n 1, 1) := by decide +kernel
theorem dX3_reads_30 : decode cX3_reads 30 = .ok (.invokevirtual 56, 3) := by decide +kernel
theorem dX3_reads_33 : decode cX3_reads 33 = .ok (.aload_n 0, 1) := by decide +kernel
theorem dX3_reads_34 : decode cX3_reads 34 = .ok (.getfield 35, 3) := by decide +kernel
theorem dX3_reads_37 : decode cX3_reads 37 = .ok (.iconst (-1), 1) := by decide +kernel
theorem dX3_reads_38 : decode cX3_reads 38 = .ok (.if_icmp .eq 8, 3) := by decide +kernel
theorem dX3_reads_41 : decode cX3_reads 41 = .ok (.aload_n 0, 1) := by decide +kernel
theorem dX3_reads_42 : decode cX3_reads 42 = .ok (.iconst 1, 1) := by decide +kernel
theorem dX3_reads_43 : decode cX3_reads 43 = .ok (.invokevirtual 59, 3) := by decide +kernel
theorem dX3_reads_46 : decode cX3_reads 46 = .ok (.aload_n 0, 1) := by decide +kernel
theorem dX3_reads_47 : decode cX3_reads 47 = .ok (.iconst 0, 1) := by decide +kernel
theorem dX3_reads_48 : decode cX3_reads 48 = .ok (.putfield 15, 3) := by decide +kernel
theorem dX3_reads_51 : decode cX3_reads 51 = .ok (.aload_n 0, 1) := by decide +kernel
theorem dX3_reads_52 : decode cX3_reads 52 = .ok (.getfield 25, 3) := by decide +kernel
theorem dX3_reads_55 : decode cX3_reads 55 = .ok (.ifCond .ne 7, 3) := by decide +kernel
theorem dX3_reads_58 : decode cX3_reads 58 = .ok (.iconst 1, 1) := by decide +kernel
theorem dX3_reads_59 : decode cX3_reads 59 = .ok (.goto 4, 3) := by decide +kernel
theorem dX3_reads_62 : decode cX3_reads 62 = .ok (.iconst 0, 1) := by decide +kernel
theorem dX3_reads_63 : decode cX3_reads 63 = .ok (.ireturn, 1) := by decide +kernel
theorem dX3_readLaw_0 : decode cX3_readLaw 0 = .ok (.aload_n 0, 1) := by decide +kernel
theorem dX3_readLaw_1 : decode cX3_readLaw 1 = .ok (.bipush 113, 2) := by decide +kernel
theorem dX3_readLaw_3 : decode cX3_readLaw 3 = .ok (.invokevirtual 63, 3) := by decide +kernel
theorem dX3_readLaw_6 : decode cX3_readLaw 6 = .ok (.aload_n 1, 1) := by decide +kernel
theorem dX3_readLaw_7 : decode cX3_readLaw 7 = .ok (.aload_n 0, 1) := by decide +kernel
theorem dX3_readLaw_8 : decode cX3_readLaw 8 = .ok (.iconst 0, 1) := by decide +kernel
theorem dX3_readLaw_9 : decode cX3_readLaw 9 = .ok (.bipush 9, 2) := by decide +kernel
theorem dX3_readLaw_11 : decode cX3_readLaw 11 = .ok (.invokevirtual 66, 3) := by decide +kernel
theorem dX3_readLaw_14 : decode cX3_readLaw 14 = .ok (.putfield 70, 3) := by decide +kernel
theorem dX3_readLaw_17 : decode cX3_readLaw 17 = .ok (.aload_n 0, 1) := by decide +kernel
theorem dX3_readLaw_18 : decode cX3_readLaw 18 = .ok (.bipush 59, 2) := by decide +kernel
theorem dX3_readLaw_20 : decode cX3_readLaw 20 = .ok (.invokevirtual 63, 3) := by decide +kernel
theorem dX3_readLaw_23 : decode cX3_readLaw 23 = .ok (.return_, 1) := by decide +kernel
theorem dX3_readFlock_0 : decode cX3_readFlock 0 = .ok (.aload_n 0, 1) := by decide +kernel
theorem dX3_readFlock_1 : decode cX3_readFlock 1 = .ok (.getfield 35, 3) := by decide +kernel
theorem dX3_readFlock_4 : decode cX3_readFlock 4 = .ok (.bipush 102, 2) := by decide +kernel
theorem dX3_readFlock_6 : decode cX3_readFlock 6 = .ok (.if_icmp .eq 8, 3) := by decide +kernel
theorem dX3_readFlock_9 : decode cX3_readFlock 9 = .ok (.aload_n 0, 1) := by decide +kernel
theorem dX3_readFlock_10 : decode cX3_readFlock 10 = .ok (.iconst 1, 1) := by decide +kernel
theorem dX3_readFlock_11 : decode cX3_readFlock 11 = .ok (.invokevirtual 59, 3) := by decide +kernel
theorem dX3_readFlock_14 : decode cX3_readFlock 14 = .ok (.iconst 0, 1) := by decide +kernel
theorem dX3_readFlock_15 : decode cX3_readFlock 15 = .ok (.istore_n 2, 1) := by decide +kernel
theorem dX3_readFlock_16 : decode cX3_readFlock 16 = .ok (.iload_n 2, 1) := by decide +kernel
theorem dX3_readFlock_17 : decode cX3_readFlock 17 = .ok (.bipush 6, 2) := by decide +kernel
theorem dX3_readFlock_19 : decode cX3_readFlock 19 = .ok (.if_icmp .gt 51, 3) := by decide +kernel
theorem dX3_readFlock_22 : decode cX3_readFlock 22 = .ok (.aload_n 0, 1) := by decide +kernel
theorem dX3_readFlock_23 : decode cX3_readFlock 23 = .ok (.getfield 25, 3) := by decide +kernel
theorem dX3_readFlock_26 : decode cX3_readFlock 26 = .ok (.ifCond .ne 44, 3) := by decide +kernel
theorem dX3_readFlock_29 : decode cX3_readFlock 29 = .ok (.aload_n 0, 1) := by decide +kernel
theorem dX3_readFlock_30 : decode cX3_readFlock 30 = .ok (.getfield 35, 3) := by decide +kernel
theorem dX3_readFlock_33 : decode cX3_readFlock 33 = .ok (.bipush 102, 2) := by decide +kernel
theorem dX3_readFlock_35 : decode cX3_readFlock 35 = .ok (.if_icmp .ne 35, 3) := by decide +kernel
theorem dX3_readFlock_38 : decode cX3_readFlock 38 = .ok (.aload_n 1, 1) := by decide +kernel
theorem dX3_readFlock_39 : decode cX3_readFlock 39 = .ok (.getfield 73, 3) := by decide +kernel
theorem dX3_readFlock_42 : decode cX3_readFlock 42 = .ok (.bipush 6, 2) := by decide +kernel
theorem dX3_readFlock_44 : decode cX3_readFlock 44 = .ok (.if_icmp .ne 11, 3) := by decide +kernel
theorem dX3_readFlock_47 : decode cX3_readFlock 47 = .ok (.aload_n 0, 1) := by decide +kernel
theorem dX3_readFlock_48 : decode cX3_readFlock 48 = .ok (.iconst 3, 1) := by decide +kernel
theorem dX3_readFlock_49 : decode cX3_readFlock 49 = .ok (.invokevirtual 59, 3) := by decide +kernel
theorem dX3_readFlock_52 : decode cX3_readFlock 52 = .ok (.goto 12, 3) := by decide +kernel
theorem dX3_readFlock_55 : decode cX3_readFlock 55 = .ok (.aload_n 0, 1) := by decide +kernel
theorem dX3_readFlock_56 : decode cX3_readFlock 56 = .ok (.aload_n 1, 1) := by decide +kernel
theorem dX3_readFlock_57 : decode cX3_readFlock 57 = .ok (.aload_n 1, 1) := by decide +kernel
theorem dX3_readFlock_58 : decode cX3_readFlock 58 = .ok (.getfield 73, 3) := by decide +kernel
theorem dX3_readFlock_61 : decode cX3_readFlock 61 = .ok (.invokevirtual 76, 3) := by decide +kernel
theorem dX3_readFlock_64 : decode cX3_readFlock 64 = .ok (.iinc 2 1, 3) := by decide +kernel
theorem dX3_readFlock_67 : decode cX3_readFlock 67 = .ok (.goto (-51), 3) := by decide +kernel
theorem dX3_readFlock_70 : decode cX3_readFlock 70 = .ok (.return_, 1) := by decide +kernel
theorem dX3_readSheep_0 : decode cX3_readSheep 0 = .ok (.aload_n 0, 1) := by decide +kernel
theorem dX3_readSheep_1 : decode cX3_readSheep 1 = .ok (.bipush 102, 2) := by decide +kernel
theorem dX3_readSheep_3 : decode cX3_readSheep 3 = .ok (.invokevirtual 63, 3) := by decide +kernel
theorem dX3_readSheep_6 : decode cX3_readSheep 6 = .ok (.aload_n 1, 1) := by decide +kernel
theorem dX3_readSheep_7 : decode cX3_readSheep 7 = .ok (.getfield 80, 3) := by decide +kernel
theorem dX3_readSheep_10 : decode cX3_readSheep 10 = .ok (.iload_n 2, 1) := by decide +kernel
theorem dX3_readSheep_11 : decode cX3_readSheep 11 = .ok (.aload_n 0, 1) := by decide +kernel
theorem dX3_readSheep_12 : decode cX3_readSheep 12 = .ok (.iconst 0, 1) := by decide +kernel
theorem dX3_readSheep_13 : decode cX3_readSheep 13 = .ok (.bipush 9, 2) := by decide +kernel
theorem dX3_readSheep_15 : decode cX3_readSheep 15 = .ok (.invokevirtual 66, 3) := by decide +kernel
theorem dX3_readSheep_18 : decode cX3_readSheep 18 = .ok (.iastore, 1) := by decide +kernel
theorem dX3_readSheep_19 : decode cX3_readSheep 19 = .ok (.aload_n 0, 1) := by decide +kernel
theorem dX3_readSheep_20 : decode cX3_readSheep 20 = .ok (.bipush 44, 2) := by decide +kernel
theorem dX3_readSheep_22 : decode cX3_readSheep 22 = .ok (.invokevirtual 63, 3) := by decide +kernel
theorem dX3_readSheep_25 : decode cX3_readSheep 25 = .ok (.aload_n 1, 1) := by decide +kernel
theorem dX3_readSheep_26 : decode cX3_readSheep 26 = .ok (.getfield 83, 3) := by decide +kernel
theorem dX3_readSheep_29 : decode cX3_readSheep 29 = .ok (.iload_n 2, 1) := by decide +kernel
theorem dX3_readSheep_30 : decode cX3_readSheep 30 = .ok (.aload_n 0, 1) := by decide +kernel
theorem dX3_readSheep_31 : decode cX3_readSheep 31 = .ok (.iconst 0, 1) := by decide +kernel
theorem dX3_readSheep_32 : decode cX3_readSheep 32 = .ok (.iconst 3, 1) := by decide +kernel
theorem dX3_readSheep_33 : decode cX3_readSheep 33 = .ok (.invokevirtual 66, 3) := by decide +kernel
theorem dX3_readSheep_36 : decode cX3_readSheep 36 = .ok (.iastore, 1) := by decide +kernel
theorem dX3_readSheep_37 : decode cX3_readSheep 37 = .ok (.aload_n 0, 1) := by decide +kernel
theorem dX3_readSheep_38 : decode cX3_readSheep 38 = .ok (.bipush 59, 2) := by decide +kernel
theorem dX3_readSheep_40 : decode cX3_readSheep 40 = .ok (.invokevirtual 63, 3) := by decide +kernel
theorem dX3_readSheep_43 : decode cX3_readSheep 43 = .ok (.aload_n 1, 1) := by decide +kernel
theorem dX3_readSheep_44 : decode cX3_readSheep 44 = .ok (.getfield 86, 3) := by decide +kernel
theorem dX3_readSheep_47 : decode cX3_readSheep 47 = .ok (.iload_n 2, 1) := by decide +kernel
theorem dX3_readSheep_48 : decode cX3_readSheep 48 = .ok (.iload_n 2, 1) := by decide +kernel
theorem dX3_readSheep_49 : decode cX3_readSheep 49 = .ok (.iastore, 1) := by decide +kernel
theorem dX3_readSheep_50 : decode cX3_readSheep 50 = .ok (.aload_n 1, 1) := by decide +kernel
theorem dX3_readSheep_51 : decode cX3_readSheep 51 = .ok (.dup, 1) := by decide +kernel
theorem dX3_readSheep_52 : decode cX3_readSheep 52 = .ok (.getfield 73, 3) := by decide +kernel
theorem dX3_readSheep_55 : decode cX3_readSheep 55 = .ok (.iconst 1, 1) := by decide +kernel
theorem dX3_readSheep_56 : decode cX3_readSheep 56 = .ok (.iadd, 1) := by decide +kernel
theorem dX3_readSheep_57 : decode cX3_readSheep 57 = .ok (.putfield 73, 3) := by decide +kernel
theorem dX3_readSheep_60 : decode cX3_readSheep 60 = .ok (.return_, 1) := by decide +kernel
theorem dX3_readSleepers_0 : decode cX3_readSleepers 0 = .ok (.iconst 0, 1) := by decide +kernel
theorem dX3_readSleepers_1 : decode cX3_readSleepers 1 = .ok (.istore_n 2, 1) := by decide +kernel
theorem dX3_readSleepers_2 : decode cX3_readSleepers 2 = .ok (.iload_n 2, 1) := by decide +kernel
theorem dX3_readSleepers_3 : decode cX3_readSleepers 3 = .ok (.iconst 5, 1) := by decide +kernel
theorem dX3_readSleepers_4 : decode cX3_readSleepers 4 = .ok (.if_icmp .gt 51, 3) := by decide +kernel
theorem dX3_readSleepers_7 : decode cX3_readSleepers 7 = .ok (.aload_n 0, 1) := by decide +kernel
theorem dX3_readSleepers_8 : decode cX3_readSleepers 8 = .ok (.getfield 25, 3) := by decide +kernel
theorem dX3_readSleepers_11 : decode cX3_readSleepers 11 = .ok (.ifCond .ne 44, 3) := by decide +kernel
theorem dX3_readSleepers_14 : decode cX3_readSleepers 14 = .ok (.aload_n 0, 1) := by decide +kernel
theorem dX3_readSleepers_15 : decode cX3_readSleepers 15 = .ok (.getfield 35, 3) := by decide +kernel
theorem dX3_readSleepers_18 : decode cX3_readSleepers 18 = .ok (.invokestatic 89, 3) := by decide +kernel
theorem dX3_readSleepers_21 : decode cX3_readSleepers 21 = .ok (.ifCond .eq 34, 3) := by decide +kernel
theorem dX3_readSleepers_24 : decode cX3_readSleepers 24 = .ok (.aload_n 1, 1) := by decide +kernel
theorem dX3_readSleepers_25 : decode cX3_readSleepers 25 = .ok (.getfield 93, 3) := by decide +kernel
theorem dX3_readSleepers_28 : decode cX3_readSleepers 28 = .ok (.iconst 5, 1) := by decide +kernel
theorem dX3_readSleepers_29 : decode cX3_readSleepers 29 = .ok (.if_icmp .ne 11, 3) := by decide +kernel
theorem dX3_readSleepers_32 : decode cX3_readSleepers 32 = .ok (.aload_n 0, 1) := by decide +kernel
theorem dX3_readSleepers_33 : decode cX3_readSleepers 33 = .ok (.iconst 3, 1) := by decide +kernel
theorem dX3_readSleepers_34 : decode cX3_readSleepers 34 = .ok (.invokevirtual 59, 3) := by decide +kernel
theorem dX3_readSleepers_37 : decode cX3_readSleepers 37 = .ok (.goto 12, 3) := by decide +kernel
theorem dX3_readSleepers_40 : decode cX3_readSleepers 40 = .ok (.aload_n 0, 1) := by decide +kernel
theorem dX3_readSleepers_41 : decode cX3_readSleepers 41 = .ok (.aload_n 1, 1) := by decide +kernel
theorem dX3_readSleepers_42 : decode cX3_readSleepers 42 = .ok (.aload_n 1, 1) := by decide +kernel
theorem dX3_readSleepers_43 : decode cX3_readSleepers 43 = .ok (.getfield 93, 3) := by decide +kernel
theorem dX3_readSleepers_46 : decode cX3_readSleepers 46 = .ok (.invokevirtual 96, 3) := by decide +kernel
theorem dX3_readSleepers_49 : decode cX3_readSleepers 49 = .ok (.iinc 2 1, 3) := by decide +kernel
theorem dX3_readSleepers_52 : decode cX3_readSleepers 52 = .ok (.goto (-50), 3) := by decide +kernel
theorem dX3_readSleepers_55 : decode cX3_readSleepers 55 = .ok (.return_, 1) := by decide +kernel
theorem dX3_readSleeper_0 : decode cX3_readSleeper 0 = .ok (.aload_n 1, 1) := by decide +kernel
theorem dX3_readSleeper_1 : decode cX3_readSleeper 1 = .ok (.getfield 99, 3) := by decide +kernel
theorem dX3_readSleeper_4 : decode cX3_readSleeper 4 = .ok (.iload_n 2, 1) := by decide +kernel
theorem dX3_readSleeper_5 : decode cX3_readSleeper 5 = .ok (.aload_n 0, 1) := by decide +kernel
theorem dX3_readSleeper_6 : decode cX3_readSleeper 6 = .ok (.getfield 35, 3) := by decide +kernel
theorem dX3_readSleeper_9 : decode cX3_readSleeper 9 = .ok (.invokestatic 89, 3) := by decide +kernel
theorem dX3_readSleeper_12 : decode cX3_readSleeper 12 = .ok (.iastore, 1) := by decide +kernel
theorem dX3_readSleeper_13 : decode cX3_readSleeper 13 = .ok (.aload_n 0, 1) := by decide +kernel
theorem dX3_readSleeper_14 : decode cX3_readSleeper 14 = .ok (.invokevirtual 46, 3) := by decide +kernel
theorem dX3_readSleeper_17 : decode cX3_readSleeper 17 = .ok (.aload_n 1, 1) := by decide +kernel
theorem dX3_readSleeper_18 : decode cX3_readSleeper 18 = .ok (.getfield 102, 3) := by decide +kernel
theorem dX3_readSleeper_21 : decode cX3_readSleeper 21 = .ok (.iload_n 2, 1) := by decide +kernel
theorem dX3_readSleeper_22 : decode cX3_readSleeper 22 = .ok (.aload_n 0, 1) := by decide +kernel
theorem dX3_readSleeper_23 : decode cX3_readSleeper 23 = .ok (.iconst 1, 1) := by decide +kernel
theorem dX3_readSleeper_24 : decode cX3_readSleeper 24 = .ok (.bipush 60, 2) := by decide +kernel
theorem dX3_readSleeper_26 : decode cX3_readSleeper 26 = .ok (.invokevirtual 66, 3) := by decide +kernel
theorem dX3_readSleeper_29 : decode cX3_readSleeper 29 = .ok (.iastore, 1) := by decide +kernel
theorem dX3_readSleeper_30 : decode cX3_readSleeper 30 = .ok (.aload_n 0, 1) := by decide +kernel
theorem dX3_readSleeper_31 : decode cX3_readSleeper 31 = .ok (.bipush 44, 2) := by decide +kernel
theorem dX3_readSleeper_33 : decode cX3_readSleeper 33 = .ok (.invokevirtual 63, 3) := by decide +kernel
theorem dX3_readSleeper_36 : decode cX3_readSleeper 36 = .ok (.aload_n 1, 1) := by decide +kernel
theorem dX3_readSleeper_37 : decode cX3_readSleeper 37 = .ok (.getfield 105, 3) := by decide +kernel
theorem dX3_readSleeper_40 : decode cX3_readSleeper 40 = .ok (.iload_n 2, 1) := by decide +kernel
theorem dX3_readSleeper_41 : decode cX3_readSleeper 41 = .ok (.aload_n 0, 1) := by decide +kernel
theorem dX3_readSleeper_42 : decode cX3_readSleeper 42 = .ok (.iconst 0, 1) := by decide +kernel
theorem dX3_readSleeper_43 : decode cX3_readSleeper 43 = .ok (.iconst 1, 1) := by decide +kernel
theorem dX3_readSleeper_44 : decode cX3_readSleeper 44 = .ok (.invokevirtual 66, 3) := by decide +kernel
theorem dX3_readSleeper_47 : decode cX3_readSleeper 47 = .ok (.iastore, 1) := by decide +kernel
theorem dX3_readSleeper_48 : decode cX3_readSleeper 48 = .ok (.aload_n 0, 1) := by decide +kernel
theorem dX3_readSleeper_49 : decode cX3_readSleeper 49 = .ok (.bipush 59, 2) := by decide +kernel
theorem dX3_readSleeper_51 : decode cX3_readSleeper 51 = .ok (.invokevirtual 63, 3) := by decide +kernel
theorem dX3_readSleeper_54 : decode cX3_readSleeper 54 = .ok (.aload_n 1, 1) := by decide +kernel
theorem dX3_readSleeper_55 : decode cX3_readSleeper 55 = .ok (.dup, 1) := by decide +kernel
theorem dX3_readSleeper_56 : decode cX3_readSleeper 56 = .ok (.getfield 93, 3) := by decide +kernel
theorem dX3_readSleeper_59 : decode cX3_readSleeper 59 = .ok (.iconst 1, 1) := by decide +kernel
theorem dX3_readSleeper_60 : decode cX3_readSleeper 60 = .ok (.iadd, 1) := by decide +kernel
theorem dX3_readSleeper_61 : decode cX3_readSleeper 61 = .ok (.putfield 93, 3) := by decide +kernel
theorem dX3_readSleeper_64 : decode cX3_readSleeper 64 = .ok (.return_, 1) := by decide +kernel
theorem dX3_kindOf_0 : decode cX3_kindOf 0 = .ok (.iload_n 0, 1) := by decide +kernel
theorem dX3_kindOf_1 : decode cX3_kindOf 1 = .ok (.lookupswitch 61 #[(100, 53), (108, 59), (110, 57), (112, 51), (116, 55)], 51) := by decide +kernel
theorem dX3_kindOf_52 : decode cX3_kindOf 52 = .ok (.iconst 1, 1) := by decide +kernel
theorem dX3_kindOf_53 : decode cX3_kindOf 53 = .ok (.ireturn, 1) := by decide +kernel
theorem dX3_kindOf_54 : decode cX3_kindOf 54 = .ok (.iconst 2, 1) := by decide +kernel
theorem dX3_kindOf_55 : decode cX3_kindOf 55 = .ok (.ireturn, 1) := by decide +kernel
theorem dX3_kindOf_56 : decode cX3_kindOf 56 = .ok (.iconst 3, 1) := by decide +kernel
theorem dX3_kindOf_57 : decode cX3_kindOf 57 = .ok (.ireturn, 1) := by decide +kernel
theorem dX3_kindOf_58 : decode cX3_kindOf 58 = .ok (.iconst 4, 1) := by decide +kernel
theorem dX3_kindOf_59 : decode cX3_kindOf 59 = .ok (.ireturn, 1) := by decide +kernel
theorem dX3_kindOf_60 : decode cX3_kindOf 60 = .ok (.iconst 5, 1) := by decide +kernel
theorem dX3_kindOf_61 : decode cX3_kindOf 61 = .ok (.ireturn, 1) := by decide +kernel
theorem dX3_kindOf_62 : decode cX3_kindOf 62 = .ok (.iconst 0, 1) := by decide +kernel
theorem dX3_kindOf_63 : decode cX3_kindOf 63 = .ok (.ireturn, 1) := by decide +kernel
theorem dX3_take_0 : decode cX3_take 0 = .ok (.aload_n 0, 1) := by decide +kernel
theorem dX3_take_1 : decode cX3_take 1 = .ok (.getfield 35, 3) := by decide +kernel
theorem dX3_take_4 : decode cX3_take 4 = .ok (.iload_n 1, 1) := by decide +kernel
theorem dX3_take_5 : decode cX3_take 5 = .ok (.if_icmp .eq 8, 3) := by decide +kernel
theorem dX3_take_8 : decode cX3_take 8 = .ok (.aload_n 0, 1) := by decide +kernel
theorem dX3_take_9 : decode cX3_take 9 = .ok (.iconst 1, 1) := by decide +kernel
theorem dX3_take_10 : decode cX3_take 10 = .ok (.invokevirtual 59, 3) := by decide +kernel
theorem dX3_take_13 : decode cX3_take 13 = .ok (.aload_n 0, 1) := by decide +kernel
theorem dX3_take_14 : decode cX3_take 14 = .ok (.getfield 25, 3) := by decide +kernel
theorem dX3_take_17 : decode cX3_take 17 = .ok (.ifCond .ne 7, 3) := by decide +kernel
theorem dX3_take_20 : decode cX3_take 20 = .ok (.aload_n 0, 1) := by decide +kernel
theorem dX3_take_21 : decode cX3_take 21 = .ok (.invokevirtual 46, 3) := by decide +kernel
theorem dX3_take_24 : decode cX3_take 24 = .ok (.return_, 1) := by decide +kernel
theorem dX3_takeNumber_0 : decode cX3_takeNumber 0 = .ok (.aload_n 0, 1) := by decide +kernel
theorem dX3_takeNumber_1 : decode cX3_takeNumber 1 = .ok (.getfield 35, 3) := by decide +kernel
theorem dX3_takeNumber_4 : decode cX3_takeNumber 4 = .ok (.bipush (-2), 2) := by decide +kernel
theorem dX3_takeNumber_6 : decode cX3_takeNumber 6 = .ok (.if_icmp .eq 11, 3) := by decide +kernel
theorem dX3_takeNumber_9 : decode cX3_takeNumber 9 = .ok (.aload_n 0, 1) := by decide +kernel
theorem dX3_takeNumber_10 : decode cX3_takeNumber 10 = .ok (.iconst 1, 1) := by decide +kernel
theorem dX3_takeNumber_11 : decode cX3_takeNumber 11 = .ok (.invokevirtual 59, 3) := by decide +kernel
theorem dX3_takeNumber_14 : decode cX3_takeNumber 14 = .ok (.goto 24, 3) := by decide +kernel
theorem dX3_takeNumber_17 : decode cX3_takeNumber 17 = .ok (.aload_n 0, 1) := by decide +kernel
theorem dX3_takeNumber_18 : decode cX3_takeNumber 18 = .ok (.getfield 38, 3) := by decide +kernel
theorem dX3_takeNumber_21 : decode cX3_takeNumber 21 = .ok (.iload_n 1, 1) := by decide +kernel
theorem dX3_takeNumber_22 : decode cX3_takeNumber 22 = .ok (.if_icmp .lt 11, 3) := by decide +kernel
theorem dX3_takeNumber_25 : decode cX3_takeNumber 25 = .ok (.aload_n 0, 1) := by decide +kernel
theorem dX3_takeNumber_26 : decode cX3_takeNumber 26 = .ok (.getfield 38, 3) := by decide +kernel
theorem dX3_takeNumber_29 : decode cX3_takeNumber 29 = .ok (.iload_n 2, 1) := by decide +kernel
theorem dX3_takeNumber_30 : decode cX3_takeNumber 30 = .ok (.if_icmp .le 8, 3) := by decide +kernel
theorem dX3_takeNumber_33 : decode cX3_takeNumber 33 = .ok (.aload_n 0, 1) := by decide +kernel
theorem dX3_takeNumber_34 : decode cX3_takeNumber 34 = .ok (.iconst 2, 1) := by decide +kernel
theorem dX3_takeNumber_35 : decode cX3_takeNumber 35 = .ok (.invokevirtual 59, 3) := by decide +kernel
theorem dX3_takeNumber_38 : decode cX3_takeNumber 38 = .ok (.aload_n 0, 1) := by decide +kernel
theorem dX3_takeNumber_39 : decode cX3_takeNumber 39 = .ok (.getfield 38, 3) := by decide +kernel
theorem dX3_takeNumber_42 : decode cX3_takeNumber 42 = .ok (.istore_n 3, 1) := by decide +kernel
theorem dX3_takeNumber_43 : decode cX3_takeNumber 43 = .ok (.aload_n 0, 1) := by decide +kernel
theorem dX3_takeNumber_44 : decode cX3_takeNumber 44 = .ok (.getfield 25, 3) := by decide +kernel
theorem dX3_takeNumber_47 : decode cX3_takeNumber 47 = .ok (.ifCond .ne 7, 3) := by decide +kernel
theorem dX3_takeNumber_50 : decode cX3_takeNumber 50 = .ok (.aload_n 0, 1) := by decide +kernel
theorem dX3_takeNumber_51 : decode cX3_takeNumber 51 = .ok (.invokevirtual 46, 3) := by decide +kernel
theorem dX3_takeNumber_54 : decode cX3_takeNumber 54 = .ok (.iload_n 3, 1) := by decide +kernel
theorem dX3_takeNumber_55 : decode cX3_takeNumber 55 = .ok (.ireturn, 1) := by decide +kernel
theorem dX3_blame_0 : decode cX3_blame 0 = .ok (.aload_n 0, 1) := by decide +kernel
theorem dX3_blame_1 : decode cX3_blame 1 = .ok (.getfield 25, 3) := by decide +kernel
theorem dX3_blame_4 : decode cX3_blame 4 = .ok (.ifCond .eq 4, 3) := by decide +kernel
theorem dX3_blame_7 : decode cX3_blame 7 = .ok (.return_, 1) := by decide +kernel
theorem dX3_blame_8 : decode cX3_blame 8 = .ok (.aload_n 0, 1) := by decide +kernel
theorem dX3_blame_9 : decode cX3_blame 9 = .ok (.iconst 1, 1) := by decide +kernel
theorem dX3_blame_10 : decode cX3_blame 10 = .ok (.putfield 25, 3) := by decide +kernel
theorem dX3_blame_13 : decode cX3_blame 13 = .ok (.aload_n 0, 1) := by decide +kernel
theorem dX3_blame_14 : decode cX3_blame 14 = .ok (.iload_n 1, 1) := by decide +kernel
theorem dX3_blame_15 : decode cX3_blame 15 = .ok (.putfield 19, 3) := by decide +kernel
theorem dX3_blame_18 : decode cX3_blame 18 = .ok (.aload_n 0, 1) := by decide +kernel
theorem dX3_blame_19 : decode cX3_blame 19 = .ok (.aload_n 0, 1) := by decide +kernel
theorem dX3_blame_20 : decode cX3_blame 20 = .ok (.getfield 32, 3) := by decide +kernel
theorem dX3_blame_23 : decode cX3_blame 23 = .ok (.putfield 22, 3) := by decide +kernel
theorem dX3_blame_26 : decode cX3_blame 26 = .ok (.return_, 1) := by decide +kernel
theorem dX3_look_0 : decode cX3_look 0 = .ok (.aload_n 0, 1) := by decide +kernel
theorem dX3_look_1 : decode cX3_look 1 = .ok (.aload_n 0, 1) := by decide +kernel
theorem dX3_look_2 : decode cX3_look 2 = .ok (.getfield 29, 3) := by decide +kernel
theorem dX3_look_5 : decode cX3_look 5 = .ok (.putfield 32, 3) := by decide +kernel
theorem dX3_look_8 : decode cX3_look 8 = .ok (.aload_n 0, 1) := by decide +kernel
theorem dX3_look_9 : decode cX3_look 9 = .ok (.getfield 29, 3) := by decide +kernel
theorem dX3_look_12 : decode cX3_look 12 = .ok (.aload_n 0, 1) := by decide +kernel
theorem dX3_look_13 : decode cX3_look 13 = .ok (.getfield 15, 3) := by decide +kernel
theorem dX3_look_16 : decode cX3_look 16 = .ok (.if_icmp .lt 11, 3) := by decide +kernel
theorem dX3_look_19 : decode cX3_look 19 = .ok (.aload_n 0, 1) := by decide +kernel
theorem dX3_look_20 : decode cX3_look 20 = .ok (.iconst (-1), 1) := by decide +kernel
theorem dX3_look_21 : decode cX3_look 21 = .ok (.putfield 35, 3) := by decide +kernel
theorem dX3_look_24 : decode cX3_look 24 = .ok (.goto 45, 3) := by decide +kernel
theorem dX3_look_27 : decode cX3_look 27 = .ok (.aload_n 0, 1) := by decide +kernel
theorem dX3_look_28 : decode cX3_look 28 = .ok (.getfield 11, 3) := by decide +kernel
theorem dX3_look_31 : decode cX3_look 31 = .ok (.aload_n 0, 1) := by decide +kernel
theorem dX3_look_32 : decode cX3_look 32 = .ok (.getfield 29, 3) := by decide +kernel
theorem dX3_look_35 : decode cX3_look 35 = .ok (.iaload, 1) := by decide +kernel
theorem dX3_look_36 : decode cX3_look 36 = .ok (.invokestatic 108, 3) := by decide +kernel
theorem dX3_look_39 : decode cX3_look 39 = .ok (.ifCond .eq 10, 3) := by decide +kernel
theorem dX3_look_42 : decode cX3_look 42 = .ok (.aload_n 0, 1) := by decide +kernel
theorem dX3_look_43 : decode cX3_look 43 = .ok (.invokevirtual 112, 3) := by decide +kernel
theorem dX3_look_46 : decode cX3_look 46 = .ok (.goto 23, 3) := by decide +kernel
theorem dX3_look_49 : decode cX3_look 49 = .ok (.aload_n 0, 1) := by decide +kernel
theorem dX3_look_50 : decode cX3_look 50 = .ok (.aload_n 0, 1) := by decide +kernel
theorem dX3_look_51 : decode cX3_look 51 = .ok (.getfield 11, 3) := by decide +kernel
theorem dX3_look_54 : decode cX3_look 54 = .ok (.aload_n 0, 1) := by decide +kernel
theorem dX3_look_55 : decode cX3_look 55 = .ok (.dup, 1) := by decide +kernel
theorem dX3_look_56 : decode cX3_look 56 = .ok (.getfield 29, 3) := by decide +kernel
theorem dX3_look_59 : decode cX3_look 59 = .ok (.dup_x1, 1) := by decide +kernel
theorem dX3_look_60 : decode cX3_look 60 = .ok (.iconst 1, 1) := by decide +kernel
theorem dX3_look_61 : decode cX3_look 61 = .ok (.iadd, 1) := by decide +kernel
theorem dX3_look_62 : decode cX3_look 62 = .ok (.putfield 29, 3) := by decide +kernel
theorem dX3_look_65 : decode cX3_look 65 = .ok (.iaload, 1) := by decide +kernel
theorem dX3_look_66 : decode cX3_look 66 = .ok (.putfield 35, 3) := by decide +kernel
theorem dX3_look_69 : decode cX3_look 69 = .ok (.return_, 1) := by decide +kernel
theorem dX3_lookAtNumber_0 : decode cX3_lookAtNumber 0 = .ok (.aload_n 0, 1) := by decide +kernel
theorem dX3_lookAtNumber_1 : decode cX3_lookAtNumber 1 = .ok (.iconst 0, 1) := by decide +kernel
theorem dX3_lookAtNumber_2 : decode cX3_lookAtNumber 2 = .ok (.putfield 38, 3) := by decide +kernel
theorem dX3_lookAtNumber_5 : decode cX3_lookAtNumber 5 = .ok (.iconst 0, 1) := by decide +kernel
theorem dX3_lookAtNumber_6 : decode cX3_lookAtNumber 6 = .ok (.istore_n 1, 1) := by decide +kernel
theorem dX3_lookAtNumber_7 : decode cX3_lookAtNumber 7 = .ok (.iload_n 1, 1) := by decide +kernel
theorem dX3_lookAtNumber_8 : decode cX3_lookAtNumber 8 = .ok (.bipush 100, 2) := by decide +kernel
theorem dX3_lookAtNumber_10 : decode cX3_lookAtNumber 10 = .ok (.if_icmp .ge 74, 3) := by decide +kernel
theorem dX3_lookAtNumber_13 : decode cX3_lookAtNumber 13 = .ok (.aload_n 0, 1) := by decide +kernel
theorem dX3_lookAtNumber_14 : decode cX3_lookAtNumber 14 = .ok (.getfield 29, 3) := by decide +kernel
theorem dX3_lookAtNumber_17 : decode cX3_lookAtNumber 17 = .ok (.aload_n 0, 1) := by decide +kernel
theorem dX3_lookAtNumber_18 : decode cX3_lookAtNumber 18 = .ok (.getfield 15, 3) := by decide +kernel
theorem dX3_lookAtNumber_21 : decode cX3_lookAtNumber 21 = .ok (.if_icmp .ge 63, 3) := by decide +kernel
theorem dX3_lookAtNumber_24 : decode cX3_lookAtNumber 24 = .ok (.aload_n 0, 1) := by decide +kernel
theorem dX3_lookAtNumber_25 : decode cX3_lookAtNumber 25 = .ok (.getfield 11, 3) := by decide +kernel
theorem dX3_lookAtNumber_28 : decode cX3_lookAtNumber 28 = .ok (.aload_n 0, 1) := by decide +kernel
theorem dX3_lookAtNumber_29 : decode cX3_lookAtNumber 29 = .ok (.getfield 29, 3) := by decide +kernel
theorem dX3_lookAtNumber_32 : decode cX3_lookAtNumber 32 = .ok (.iaload, 1) := by decide +kernel
theorem dX3_lookAtNumber_33 : decode cX3_lookAtNumber 33 = .ok (.invokestatic 108, 3) := by decide +kernel
theorem dX3_lookAtNumber_36 : decode cX3_lookAtNumber 36 = .ok (.ifCond .eq 48, 3) := by decide +kernel
theorem dX3_lookAtNumber_39 : decode cX3_lookAtNumber 39 = .ok (.iload_n 1, 1) := by decide +kernel
theorem dX3_lookAtNumber_40 : decode cX3_lookAtNumber 40 = .ok (.iconst 2, 1) := by decide +kernel
theorem dX3_lookAtNumber_41 : decode cX3_lookAtNumber 41 = .ok (.if_icmp .ge 27, 3) := by decide +kernel
theorem dX3_lookAtNumber_44 : decode cX3_lookAtNumber 44 = .ok (.aload_n 0, 1) := by decide +kernel
theorem dX3_lookAtNumber_45 : decode cX3_lookAtNumber 45 = .ok (.aload_n 0, 1) := by decide +kernel
theorem dX3_lookAtNumber_46 : decode cX3_lookAtNumber 46 = .ok (.getfield 38, 3) := by decide +kernel
theorem dX3_lookAtNumber_49 : decode cX3_lookAtNumber 49 = .ok (.bipush 10, 2) := by decide +kernel
theorem dX3_lookAtNumber_51 : decode cX3_lookAtNumber 51 = .ok (.imul, 1) := by decide +kernel
theorem dX3_lookAtNumber_52 : decode cX3_lookAtNumber 52 = .ok (.aload_n 0, 1) := by decide +kernel
theorem dX3_lookAtNumber_53 : decode cX3_lookAtNumber 53 = .ok (.getfield 11, 3) := by decide +kernel
theorem dX3_lookAtNumber_56 : decode cX3_lookAtNumber 56 = .ok (.aload_n 0, 1) := by decide +kernel
theorem dX3_lookAtNumber_57 : decode cX3_lookAtNumber 57 = .ok (.getfield 29, 3) := by decide +kernel
theorem dX3_lookAtNumber_60 : decode cX3_lookAtNumber 60 = .ok (.iaload, 1) := by decide +kernel
theorem dX3_lookAtNumber_61 : decode cX3_lookAtNumber 61 = .ok (.iadd, 1) := by decide +kernel
theorem dX3_lookAtNumber_62 : decode cX3_lookAtNumber 62 = .ok (.bipush 48, 2) := by decide +kernel
theorem dX3_lookAtNumber_64 : decode cX3_lookAtNumber 64 = .ok (.isub, 1) := by decide +kernel
theorem dX3_lookAtNumber_65 : decode cX3_lookAtNumber 65 = .ok (.putfield 38, 3) := by decide +kernel
theorem dX3_lookAtNumber_68 : decode cX3_lookAtNumber 68 = .ok (.aload_n 0, 1) := by decide +kernel
theorem dX3_lookAtNumber_69 : decode cX3_lookAtNumber 69 = .ok (.dup, 1) := by decide +kernel
theorem dX3_lookAtNumber_70 : decode cX3_lookAtNumber 70 = .ok (.getfield 29, 3) := by decide +kernel
theorem dX3_lookAtNumber_73 : decode cX3_lookAtNumber 73 = .ok (.iconst 1, 1) := by decide +kernel
theorem dX3_lookAtNumber_74 : decode cX3_lookAtNumber 74 = .ok (.iadd, 1) := by decide +kernel
theorem dX3_lookAtNumber_75 : decode cX3_lookAtNumber 75 = .ok (.putfield 29, 3) := by decide +kernel
theorem dX3_lookAtNumber_78 : decode cX3_lookAtNumber 78 = .ok (.iinc 1 1, 3) := by decide +kernel
theorem dX3_lookAtNumber_81 : decode cX3_lookAtNumber 81 = .ok (.goto (-74), 3) := by decide +kernel
theorem dX3_lookAtNumber_84 : decode cX3_lookAtNumber 84 = .ok (.aload_n 0, 1) := by decide +kernel
theorem dX3_lookAtNumber_85 : decode cX3_lookAtNumber 85 = .ok (.aload_n 0, 1) := by decide +kernel
theorem dX3_lookAtNumber_86 : decode cX3_lookAtNumber 86 = .ok (.getfield 29, 3) := by decide +kernel
theorem dX3_lookAtNumber_89 : decode cX3_lookAtNumber 89 = .ok (.aload_n 0, 1) := by decide +kernel
theorem dX3_lookAtNumber_90 : decode cX3_lookAtNumber 90 = .ok (.getfield 32, 3) := by decide +kernel
theorem dX3_lookAtNumber_93 : decode cX3_lookAtNumber 93 = .ok (.isub, 1) := by decide +kernel
theorem dX3_lookAtNumber_94 : decode cX3_lookAtNumber 94 = .ok (.iconst 2, 1) := by decide +kernel
theorem dX3_lookAtNumber_95 : decode cX3_lookAtNumber 95 = .ok (.if_icmp .le 8, 3) := by decide +kernel
theorem dX3_lookAtNumber_98 : decode cX3_lookAtNumber 98 = .ok (.bipush (-3), 2) := by decide +kernel
theorem dX3_lookAtNumber_100 : decode cX3_lookAtNumber 100 = .ok (.goto 5, 3) := by decide +kernel
theorem dX3_lookAtNumber_103 : decode cX3_lookAtNumber 103 = .ok (.bipush (-2), 2) := by decide +kernel
theorem dX3_lookAtNumber_105 : decode cX3_lookAtNumber 105 = .ok (.putfield 35, 3) := by decide +kernel
theorem dX3_lookAtNumber_108 : decode cX3_lookAtNumber 108 = .ok (.return_, 1) := by decide +kernel
theorem dX3_isFigure_0 : decode cX3_isFigure 0 = .ok (.iload_n 0, 1) := by decide +kernel
theorem dX3_isFigure_1 : decode cX3_isFigure 1 = .ok (.bipush 48, 2) := by decide +kernel
theorem dX3_isFigure_3 : decode cX3_isFigure 3 = .ok (.if_icmp .lt 13, 3) := by decide +kernel
theorem dX3_isFigure_6 : decode cX3_isFigure 6 = .ok (.iload_n 0, 1) := by decide +kernel
theorem dX3_isFigure_7 : decode cX3_isFigure 7 = .ok (.bipush 57, 2) := by decide +kernel
theorem dX3_isFigure_9 : decode cX3_isFigure 9 = .ok (.if_icmp .gt 7, 3) := by decide +kernel
theorem dX3_isFigure_12 : decode cX3_isFigure 12 = .ok (.iconst 1, 1) := by decide +kernel
theorem dX3_isFigure_13 : decode cX3_isFigure 13 = .ok (.goto 4, 3) := by decide +kernel
theorem dX3_isFigure_16 : decode cX3_isFigure 16 = .ok (.iconst 0, 1) := by decide +kernel
theorem dX3_isFigure_17 : decode cX3_isFigure 17 = .ok (.ireturn, 1) := by decide +kernel
theorem dX4_init_0 : decode cX4_init 0 = .ok (.aload_n 0, 1) := by decide +kernel
theorem dX4_init_1 : decode cX4_init 1 = .ok (.invokespecial 1, 3) := by decide +kernel
theorem dX4_init_4 : decode cX4_init 4 = .ok (.aload_n 0, 1) := by decide +kernel
theorem dX4_init_5 : decode cX4_init 5 = .ok (.bipush 8, 2) := by decide +kernel
theorem dX4_init_7 : decode cX4_init 7 = .ok (.newarray .int, 2) := by decide +kernel
theorem dX4_init_9 : decode cX4_init 9 = .ok (.putfield 9, 3) := by decide +kernel
theorem dX4_init_12 : decode cX4_init 12 = .ok (.aload_n 0, 1) := by decide +kernel
theorem dX4_init_13 : decode cX4_init 13 = .ok (.bipush 8, 2) := by decide +kernel
theorem dX4_init_15 : decode cX4_init 15 = .ok (.newarray .int, 2) := by decide +kernel
theorem dX4_init_17 : decode cX4_init 17 = .ok (.dup, 1) := by decide +kernel
theorem dX4_init_18 : decode cX4_init 18 = .ok (.iconst 0, 1) := by decide +kernel
theorem dX4_init_19 : decode cX4_init 19 = .ok (.iconst (-1), 1) := by decide +kernel
theorem dX4_init_20 : decode cX4_init 20 = .ok (.iastore, 1) := by decide +kernel
theorem dX4_init_21 : decode cX4_init 21 = .ok (.dup, 1) := by decide +kernel
theorem dX4_init_22 : decode cX4_init 22 = .ok (.iconst 1, 1) := by decide +kernel
theorem dX4_init_23 : decode cX4_init 23 = .ok (.iconst (-1), 1) := by decide +kernel
theorem dX4_init_24 : decode cX4_init 24 = .ok (.iastore, 1) := by decide +kernel
theorem dX4_init_25 : decode cX4_init 25 = .ok (.dup, 1) := by decide +kernel
theorem dX4_init_26 : decode cX4_init 26 = .ok (.iconst 2, 1) := by decide +kernel
theorem dX4_init_27 : decode cX4_init 27 = .ok (.iconst (-1), 1) := by decide +kernel
theorem dX4_init_28 : decode cX4_init 28 = .ok (.iastore, 1) := by decide +kernel
theorem dX4_init_29 : decode cX4_init 29 = .ok (.dup, 1) := by decide +kernel
theorem dX4_init_30 : decode cX4_init 30 = .ok (.iconst 3, 1) := by decide +kernel
theorem dX4_init_31 : decode cX4_init 31 = .ok (.iconst (-1), 1) := by decide +kernel
theorem dX4_init_32 : decode cX4_init 32 = .ok (.iastore, 1) := by decide +kernel
theorem dX4_init_33 : decode cX4_init 33 = .ok (.dup, 1) := by decide +kernel
theorem dX4_init_34 : decode cX4_init 34 = .ok (.iconst 4, 1) := by decide +kernel
theorem dX4_init_35 : decode cX4_init 35 = .ok (.iconst (-1), 1) := by decide +kernel
theorem dX4_init_36 : decode cX4_init 36 = .ok (.iastore, 1) := by decide +kernel
theorem dX4_init_37 : decode cX4_init 37 = .ok (.dup, 1) := by decide +kernel
theorem dX4_init_38 : decode cX4_init 38 = .ok (.iconst 5, 1) := by decide +kernel
theorem dX4_init_39 : decode cX4_init 39 = .ok (.iconst (-1), 1) := by decide +kernel
theorem dX4_init_40 : decode cX4_init 40 = .ok (.iastore, 1) := by decide +kernel
theorem dX4_init_41 : decode cX4_init 41 = .ok (.dup, 1) := by decide +kernel
theorem dX4_init_42 : decode cX4_init 42 = .ok (.bipush 6, 2) := by decide +kernel
theorem dX4_init_44 : decode cX4_init 44 = .ok (.iconst (-1), 1) := by decide +kernel
theorem dX4_init_45 : decode cX4_init 45 = .ok (.iastore, 1) := by decide +kernel
theorem dX4_init_46 : decode cX4_init 46 = .ok (.dup, 1) := by decide +kernel
theorem dX4_init_47 : decode cX4_init 47 = .ok (.bipush 7, 2) := by decide +kernel
theorem dX4_init_49 : decode cX4_init 49 = .ok (.iconst (-1), 1) := by decide +kernel
theorem dX4_init_50 : decode cX4_init 50 = .ok (.iastore, 1) := by decide +kernel
theorem dX4_init_51 : decode cX4_init 51 = .ok (.putfield 13, 3) := by decide +kernel
theorem dX4_init_54 : decode cX4_init 54 = .ok (.aload_n 0, 1) := by decide +kernel
theorem dX4_init_55 : decode cX4_init 55 = .ok (.sipush 320, 3) := by decide +kernel
theorem dX4_init_58 : decode cX4_init 58 = .ok (.newarray .int, 2) := by decide +kernel
theorem dX4_init_60 : decode cX4_init 60 = .ok (.putfield 16, 3) := by decide +kernel
theorem dX4_init_63 : decode cX4_init 63 = .ok (.return_, 1) := by decide +kernel
theorem dX4_isGone_0 : decode cX4_isGone 0 = .ok (.aload_n 0, 1) := by decide +kernel
theorem dX4_isGone_1 : decode cX4_isGone 1 = .ok (.getfield 13, 3) := by decide +kernel
theorem dX4_isGone_4 : decode cX4_isGone 4 = .ok (.iload_n 1, 1) := by decide +kernel
theorem dX4_isGone_5 : decode cX4_isGone 5 = .ok (.iaload, 1) := by decide +kernel
theorem dX4_isGone_6 : decode cX4_isGone 6 = .ok (.iconst (-1), 1) := by decide +kernel
theorem dX4_isGone_7 : decode cX4_isGone 7 = .ok (.if_icmp .ne 7, 3) := by decide +kernel
theorem dX4_isGone_10 : decode cX4_isGone 10 = .ok (.iconst 1, 1) := by decide +kernel
theorem dX4_isGone_11 : decode cX4_isGone 11 = .ok (.goto 4, 3) := by decide +kernel
theorem dX4_isGone_14 : decode cX4_isGone 14 = .ok (.iconst 0, 1) := by decide +kernel
theorem dX4_isGone_15 : decode cX4_isGone 15 = .ok (.ireturn, 1) := by decide +kernel
theorem dX4_lacks_0 : decode cX4_lacks 0 = .ok (.iload_n 2, 1) := by decide +kernel
theorem dX4_lacks_1 : decode cX4_lacks 1 = .ok (.ifCond .lt 29, 3) := by decide +kernel
theorem dX4_lacks_4 : decode cX4_lacks 4 = .ok (.iload_n 3, 1) := by decide +kernel
theorem dX4_lacks_5 : decode cX4_lacks 5 = .ok (.ifCond .lt 25, 3) := by decide +kernel
theorem dX4_lacks_8 : decode cX4_lacks 8 = .ok (.iload_n 3, 1) := by decide +kernel
theorem dX4_lacks_9 : decode cX4_lacks 9 = .ok (.aload_n 0, 1) := by decide +kernel
theorem dX4_lacks_10 : decode cX4_lacks 10 = .ok (.getfield 13, 3) := by decide +kernel
theorem dX4_lacks_13 : decode cX4_lacks 13 = .ok (.iload_n 1, 1) := by decide +kernel
theorem dX4_lacks_14 : decode cX4_lacks 14 = .ok (.iaload, 1) := by decide +kernel
theorem dX4_lacks_15 : decode cX4_lacks 15 = .ok (.if_icmp .gt 15, 3) := by decide +kernel
theorem dX4_lacks_18 : decode cX4_lacks 18 = .ok (.iload_n 2, 1) := by decide +kernel
theorem dX4_lacks_19 : decode cX4_lacks 19 = .ok (.aload_n 0, 1) := by decide +kernel
theorem dX4_lacks_20 : decode cX4_lacks 20 = .ok (.getfield 13, 3) := by decide +kernel
theorem dX4_lacks_23 : decode cX4_lacks 23 = .ok (.iload_n 1, 1) := by decide +kernel
theorem dX4_lacks_24 : decode cX4_lacks 24 = .ok (.iaload, 1) := by decide +kernel
theorem dX4_lacks_25 : decode cX4_lacks 25 = .ok (.iload_n 3, 1) := by decide +kernel
theorem dX4_lacks_26 : decode cX4_lacks 26 = .ok (.isub, 1) := by decide +kernel
theorem dX4_lacks_27 : decode cX4_lacks 27 = .ok (.if_icmp .le 7, 3) := by decide +kernel
theorem dX4_lacks_30 : decode cX4_lacks 30 = .ok (.iconst 1, 1) := by decide +kernel
theorem dX4_lacks_31 : decode cX4_lacks 31 = .ok (.goto 4, 3) := by decide +kernel
theorem dX4_lacks_34 : decode cX4_lacks 34 = .ok (.iconst 0, 1) := by decide +kernel
theorem dX4_lacks_35 : decode cX4_lacks 35 = .ok (.ireturn, 1) := by decide +kernel
theorem dX4_placeOf_0 : decode cX4_placeOf 0 = .ok (.iload_n 1, 1) := by decide +kernel
theorem dX4_placeOf_1 : decode cX4_placeOf 1 = .ok (.bipush 40, 2) := by decide +kernel
theorem dX4_placeOf_3 : decode cX4_placeOf 3 = .ok (.imul, 1) := by decide +kernel
theorem dX4_placeOf_4 : decode cX4_placeOf 4 = .ok (.iload_n 2, 1) := by decide +kernel
theorem dX4_placeOf_5 : decode cX4_placeOf 5 = .ok (.iadd, 1) := by decide +kernel
theorem dX4_placeOf_6 : decode cX4_placeOf 6 = .ok (.ireturn, 1) := by decide +kernel
theorem dX4_make_0 : decode cX4_make 0 = .ok (.aload_n 0, 1) := by decide +kernel
theorem dX4_make_1 : decode cX4_make 1 = .ok (.getfield 9, 3) := by decide +kernel
theorem dX4_make_4 : decode cX4_make 4 = .ok (.iload_n 1, 1) := by decide +kernel
theorem dX4_make_5 : decode cX4_make 5 = .ok (.iload_n 2, 1) := by decide +kernel
theorem dX4_make_6 : decode cX4_make 6 = .ok (.iastore, 1) := by decide +kernel
theorem dX4_make_7 : decode cX4_make 7 = .ok (.aload_n 0, 1) := by decide +kernel
theorem dX4_make_8 : decode cX4_make 8 = .ok (.getfield 13, 3) := by decide +kernel
theorem dX4_make_11 : decode cX4_make 11 = .ok (.iload_n 1, 1) := by decide +kernel
theorem dX4_make_12 : decode cX4_make 12 = .ok (.iload_n 3, 1) := by decide +kernel
theorem dX4_make_13 : decode cX4_make 13 = .ok (.iastore, 1) := by decide +kernel
theorem dX4_make_14 : decode cX4_make 14 = .ok (.iconst 0, 1) := by decide +kernel
theorem dX4_make_15 : decode cX4_make 15 = .ok (.istore 4, 2) := by decide +kernel
theorem dX4_make_17 : decode cX4_make 17 = .ok (.iload 4, 2) := by decide +kernel
theorem dX4_make_19 : decode cX4_make 19 = .ok (.iload_n 3, 1) := by decide +kernel
theorem dX4_make_20 : decode cX4_make 20 = .ok (.if_icmp .ge 22, 3) := by decide +kernel
theorem dX4_make_23 : decode cX4_make 23 = .ok (.aload_n 0, 1) := by decide +kernel
theorem dX4_make_24 : decode cX4_make 24 = .ok (.getfield 16, 3) := by decide +kernel
theorem dX4_make_27 : decode cX4_make 27 = .ok (.aload_n 0, 1) := by decide +kernel
theorem dX4_make_28 : decode cX4_make 28 = .ok (.iload_n 1, 1) := by decide +kernel
theorem dX4_make_29 : decode cX4_make 29 = .ok (.iload 4, 2) := by decide +kernel
theorem dX4_make_31 : decode cX4_make 31 = .ok (.invokevirtual 19, 3) := by decide +kernel
theorem dX4_make_34 : decode cX4_make 34 = .ok (.iconst 0, 1) := by decide +kernel
theorem dX4_make_35 : decode cX4_make 35 = .ok (.iastore, 1) := by decide +kernel
theorem dX4_make_36 : decode cX4_make 36 = .ok (.iinc 4 1, 3) := by decide +kernel
theorem dX4_make_39 : decode cX4_make 39 = .ok (.goto (-22), 3) := by decide +kernel
theorem dX4_make_42 : decode cX4_make 42 = .ok (.return_, 1) := by decide +kernel
theorem dX4_put_0 : decode cX4_put 0 = .ok (.aload_n 0, 1) := by decide +kernel
theorem dX4_put_1 : decode cX4_put 1 = .ok (.getfield 9, 3) := by decide +kernel
theorem dX4_put_4 : decode cX4_put 4 = .ok (.iload_n 1, 1) := by decide +kernel
theorem dX4_put_5 : decode cX4_put 5 = .ok (.iaload, 1) := by decide +kernel
theorem dX4_put_6 : decode cX4_put 6 = .ok (.ifCond .ne 8, 3) := by decide +kernel
theorem dX4_put_9 : decode cX4_put 9 = .ok (.iload_n 3, 1) := by decide +kernel
theorem dX4_put_10 : decode cX4_put 10 = .ok (.i2b, 1) := by decide +kernel
theorem dX4_put_11 : decode cX4_put 11 = .ok (.goto 19, 3) := by decide +kernel
theorem dX4_put_14 : decode cX4_put 14 = .ok (.aload_n 0, 1) := by decide +kernel
theorem dX4_put_15 : decode cX4_put 15 = .ok (.getfield 9, 3) := by decide +kernel
theorem dX4_put_18 : decode cX4_put 18 = .ok (.iload_n 1, 1) := by decide +kernel
theorem dX4_put_19 : decode cX4_put 19 = .ok (.iaload, 1) := by decide +kernel
theorem dX4_put_20 : decode cX4_put 20 = .ok (.iconst 1, 1) := by decide +kernel
theorem dX4_put_21 : decode cX4_put 21 = .ok (.if_icmp .ne 8, 3) := by decide +kernel
theorem dX4_put_24 : decode cX4_put 24 = .ok (.iload_n 3, 1) := by decide +kernel
theorem dX4_put_25 : decode cX4_put 25 = .ok (.i2s, 1) := by decide +kernel
theorem dX4_put_26 : decode cX4_put 26 = .ok (.goto 4, 3) := by decide +kernel
theorem dX4_put_29 : decode cX4_put 29 = .ok (.iload_n 3, 1) := by decide +kernel
theorem dX4_put_30 : decode cX4_put 30 = .ok (.istore 4, 2) := by decide +kernel
theorem dX4_put_32 : decode cX4_put 32 = .ok (.aload_n 0, 1) := by decide +kernel
theorem dX4_put_33 : decode cX4_put 33 = .ok (.getfield 16, 3) := by decide +kernel
theorem dX4_put_36 : decode cX4_put 36 = .ok (.aload_n 0, 1) := by decide +kernel
theorem dX4_put_37 : decode cX4_put 37 = .ok (.iload_n 1, 1) := by decide +kernel
theorem dX4_put_38 : decode cX4_put 38 = .ok (.iload_n 2, 1) := by decide +kernel
theorem dX4_put_39 : decode cX4_put 39 = .ok (.invokevirtual 19, 3) := by decide +kernel
theorem dX4_put_42 : decode cX4_put 42 = .ok (.iload 4, 2) := by decide +kernel
theorem dX4_put_44 : decode cX4_put 44 = .ok (.iastore, 1) := by decide +kernel
theorem dX4_put_45 : decode cX4_put 45 = .ok (.iload 4, 2) := by decide +kernel
theorem dX4_put_47 : decode cX4_put 47 = .ok (.ireturn, 1) := by decide +kernel
theorem dX4_move_0 : decode cX4_move 0 = .ok (.aload_n 0, 1) := by decide +kernel
theorem dX4_move_1 : decode cX4_move 1 = .ok (.getfield 16, 3) := by decide +kernel
theorem dX4_move_4 : decode cX4_move 4 = .ok (.aload_n 0, 1) := by decide +kernel
theorem dX4_move_5 : decode cX4_move 5 = .ok (.iload_n 1, 1) := by decide +kernel
theorem dX4_move_6 : decode cX4_move 6 = .ok (.iload_n 2, 1) := by decide +kernel
theorem dX4_move_7 : decode cX4_move 7 = .ok (.invokevirtual 19, 3) := by decide +kernel
theorem dX4_move_10 : decode cX4_move 10 = .ok (.aload_n 0, 1) := by decide +kernel
theorem dX4_move_11 : decode cX4_move 11 = .ok (.getfield 16, 3) := by decide +kernel
theorem dX4_move_14 : decode cX4_move 14 = .ok (.aload_n 0, 1) := by decide +kernel
theorem dX4_move_15 : decode cX4_move 15 = .ok (.iload_n 3, 1) := by decide +kernel
theorem dX4_move_16 : decode cX4_move 16 = .ok (.iload 4, 2) := by decide +kernel
theorem dX4_move_18 : decode cX4_move 18 = .ok (.invokevirtual 19, 3) := by decide +kernel
theorem dX4_move_21 : decode cX4_move 21 = .ok (.iload 5, 2) := by decide +kernel
theorem dX4_move_23 : decode cX4_move 23 = .ok (.invokestatic 23, 3) := by decide +kernel
theorem dX4_move_26 : decode cX4_move 26 = .ok (.return_, 1) := by decide +kernel
theorem dX4_lose_0 : decode cX4_lose 0 = .ok (.aload_n 0, 1) := by decide +kernel
theorem dX4_lose_1 : decode cX4_lose 1 = .ok (.getfield 13, 3) := by decide +kernel
theorem dX4_lose_4 : decode cX4_lose 4 = .ok (.iload_n 1, 1) := by decide +kernel
theorem dX4_lose_5 : decode cX4_lose 5 = .ok (.iaload, 1) := by decide +kernel
theorem dX4_lose_6 : decode cX4_lose 6 = .ok (.istore_n 2, 1) := by decide +kernel
theorem dX4_lose_7 : decode cX4_lose 7 = .ok (.aload_n 0, 1) := by decide +kernel
theorem dX4_lose_8 : decode cX4_lose 8 = .ok (.getfield 13, 3) := by decide +kernel
theorem dX4_lose_11 : decode cX4_lose 11 = .ok (.iload_n 1, 1) := by decide +kernel
theorem dX4_lose_12 : decode cX4_lose 12 = .ok (.iconst (-1), 1) := by decide +kernel
theorem dX4_lose_13 : decode cX4_lose 13 = .ok (.iastore, 1) := by decide +kernel
theorem dX4_lose_14 : decode cX4_lose 14 = .ok (.iload_n 2, 1) := by decide +kernel
theorem dX4_lose_15 : decode cX4_lose 15 = .ok (.ireturn, 1) := by decide +kernel
theorem dX4_howMany_0 : decode cX4_howMany 0 = .ok (.iconst 0, 1) := by decide +kernel
theorem dX4_howMany_1 : decode cX4_howMany 1 = .ok (.istore_n 1, 1) := by decide +kernel
theorem dX4_howMany_2 : decode cX4_howMany 2 = .ok (.iconst 0, 1) := by decide +kernel
theorem dX4_howMany_3 : decode cX4_howMany 3 = .ok (.istore_n 2, 1) := by decide +kernel
theorem dX4_howMany_4 : decode cX4_howMany 4 = .ok (.iload_n 2, 1) := by decide +kernel
theorem dX4_howMany_5 : decode cX4_howMany 5 = .ok (.bipush 8, 2) := by decide +kernel
theorem dX4_howMany_7 : decode cX4_howMany 7 = .ok (.if_icmp .ge 20, 3) := by decide +kernel
theorem dX4_howMany_10 : decode cX4_howMany 10 = .ok (.aload_n 0, 1) := by decide +kernel
theorem dX4_howMany_11 : decode cX4_howMany 11 = .ok (.iload_n 2, 1) := by decide +kernel
theorem dX4_howMany_12 : decode cX4_howMany 12 = .ok (.invokevirtual 29, 3) := by decide +kernel
theorem dX4_howMany_15 : decode cX4_howMany 15 = .ok (.ifCond .ne 6, 3) := by decide +kernel
theorem dX4_howMany_18 : decode cX4_howMany 18 = .ok (.iinc 1 1, 3) := by decide +kernel
theorem dX4_howMany_21 : decode cX4_howMany 21 = .ok (.iinc 2 1, 3) := by decide +kernel
theorem dX4_howMany_24 : decode cX4_howMany 24 = .ok (.goto (-20), 3) := by decide +kernel
theorem dX4_howMany_27 : decode cX4_howMany 27 = .ok (.iload_n 1, 1) := by decide +kernel
theorem dX4_howMany_28 : decode cX4_howMany 28 = .ok (.ireturn, 1) := by decide +kernel
theorem dJ6_bitCount_0f7a4_0 : decode cJ6_bitCount_0f7a4 0 = .ok (.iload_n 0, 1) := by decide +kernel
theorem dJ6_bitCount_0f7a4_1 : decode cJ6_bitCount_0f7a4 1 = .ok (.iload_n 0, 1) := by decide +kernel
theorem dJ6_bitCount_0f7a4_2 : decode cJ6_bitCount_0f7a4 2 = .ok (.iconst 1, 1) := by decide +kernel
theorem dJ6_bitCount_0f7a4_3 : decode cJ6_bitCount_0f7a4 3 = .ok (.iushr, 1) := by decide +kernel
theorem dJ6_bitCount_0f7a4_4 : decode cJ6_bitCount_0f7a4 4 = .ok (.ldc_w 265, 3) := by decide +kernel
theorem dJ6_bitCount_0f7a4_7 : decode cJ6_bitCount_0f7a4 7 = .ok (.iand, 1) := by decide +kernel
theorem dJ6_bitCount_0f7a4_8 : decode cJ6_bitCount_0f7a4 8 = .ok (.isub, 1) := by decide +kernel
theorem dJ6_bitCount_0f7a4_9 : decode cJ6_bitCount_0f7a4 9 = .ok (.istore_n 0, 1) := by decide +kernel
theorem dJ6_bitCount_0f7a4_10 : decode cJ6_bitCount_0f7a4 10 = .ok (.iload_n 0, 1) := by decide +kernel
theorem dJ6_bitCount_0f7a4_11 : decode cJ6_bitCount_0f7a4 11 = .ok (.ldc_w 266, 3) := by decide +kernel
theorem dJ6_bitCount_0f7a4_14 : decode cJ6_bitCount_0f7a4 14 = .ok (.iand, 1) := by decide +kernel
theorem dJ6_bitCount_0f7a4_15 : decode cJ6_bitCount_0f7a4 15 = .ok (.iload_n 0, 1) := by decide +kernel
theorem dJ6_bitCount_0f7a4_16 : decode cJ6_bitCount_0f7a4 16 = .ok (.iconst 2, 1) := by decide +kernel
theorem dJ6_bitCount_0f7a4_17 : decode cJ6_bitCount_0f7a4 17 = .ok (.iushr, 1) := by decide +kernel
theorem dJ6_bitCount_0f7a4_18 : decode cJ6_bitCount_0f7a4 18 = .ok (.ldc_w 266, 3) := by decide +kernel
theorem dJ6_bitCount_0f7a4_21 : decode cJ6_bitCount_0f7a4 21 = .ok (.iand, 1) := by decide +kernel
theorem dJ6_bitCount_0f7a4_22 : decode cJ6_bitCount_0f7a4 22 = .ok (.iadd, 1) := by decide +kernel
theorem dJ6_bitCount_0f7a4_23 : decode cJ6_bitCount_0f7a4 23 = .ok (.istore_n 0, 1) := by decide +kernel
theorem dJ6_bitCount_0f7a4_24 : decode cJ6_bitCount_0f7a4 24 = .ok (.iload_n 0, 1) := by decide +kernel
theorem dJ6_bitCount_0f7a4_25 : decode cJ6_bitCount_0f7a4 25 = .ok (.iload_n 0, 1) := by decide +kernel
theorem dJ6_bitCount_0f7a4_26 : decode cJ6_bitCount_0f7a4 26 = .ok (.iconst 4, 1) := by decide +kernel
theorem dJ6_bitCount_0f7a4_27 : decode cJ6_bitCount_0f7a4 27 = .ok (.iushr, 1) := by decide +kernel
theorem dJ6_bitCount_0f7a4_28 : decode cJ6_bitCount_0f7a4 28 = .ok (.iadd, 1) := by decide +kernel
theorem dJ6_bitCount_0f7a4_29 : decode cJ6_bitCount_0f7a4 29 = .ok (.ldc_w 267, 3) := by decide +kernel
theorem dJ6_bitCount_0f7a4_32 : decode cJ6_bitCount_0f7a4 32 = .ok (.iand, 1) := by decide +kernel
theorem dJ6_bitCount_0f7a4_33 : decode cJ6_bitCount_0f7a4 33 = .ok (.istore_n 0, 1) := by decide +kernel
theorem dJ6_bitCount_0f7a4_34 : decode cJ6_bitCount_0f7a4 34 = .ok (.iload_n 0, 1) := by decide +kernel
theorem dJ6_bitCount_0f7a4_35 : decode cJ6_bitCount_0f7a4 35 = .ok (.iload_n 0, 1) := by decide +kernel
theorem dJ6_bitCount_0f7a4_36 : decode cJ6_bitCount_0f7a4 36 = .ok (.bipush 8, 2) := by decide +kernel
theorem dJ6_bitCount_0f7a4_38 : decode cJ6_bitCount_0f7a4 38 = .ok (.iushr, 1) := by decide +kernel
theorem dJ6_bitCount_0f7a4_39 : decode cJ6_bitCount_0f7a4 39 = .ok (.iadd, 1) := by decide +kernel
theorem dJ6_bitCount_0f7a4_40 : decode cJ6_bitCount_0f7a4 40 = .ok (.istore_n 0, 1) := by decide +kernel
theorem dJ6_bitCount_0f7a4_41 : decode cJ6_bitCount_0f7a4 41 = .ok (.iload_n 0, 1) := by decide +kernel
theorem dJ6_bitCount_0f7a4_42 : decode cJ6_bitCount_0f7a4 42 = .ok (.iload_n 0, 1) := by decide +kernel
theorem dJ6_bitCount_0f7a4_43 : decode cJ6_bitCount_0f7a4 43 = .ok (.bipush 16, 2) := by decide +kernel
theorem dJ6_bitCount_0f7a4_45 : decode cJ6_bitCount_0f7a4 45 = .ok (.iushr, 1) := by decide +kernel
theorem dJ6_bitCount_0f7a4_46 : decode cJ6_bitCount_0f7a4 46 = .ok (.iadd, 1) := by decide +kernel
theorem dJ6_bitCount_0f7a4_47 : decode cJ6_bitCount_0f7a4 47 = .ok (.istore_n 0, 1) := by decide +kernel
theorem dJ6_bitCount_0f7a4_48 : decode cJ6_bitCount_0f7a4 48 = .ok (.iload_n 0, 1) := by decide +kernel
theorem dJ6_bitCount_0f7a4_49 : decode cJ6_bitCount_0f7a4 49 = .ok (.bipush 63, 2) := by decide +kernel
theorem dJ6_bitCount_0f7a4_51 : decode cJ6_bitCount_0f7a4 51 = .ok (.iand, 1) := by decide +kernel
theorem dJ6_bitCount_0f7a4_52 : decode cJ6_bitCount_0f7a4 52 = .ok (.ireturn, 1) := by decide +kernel
theorem dJ9_min_7cf53_0 : decode cJ9_min_7cf53 0 = .ok (.iload_n 0, 1) := by decide +kernel
theorem dJ9_min_7cf53_1 : decode cJ9_min_7cf53 1 = .ok (.iload_n 1, 1) := by decide +kernel
theorem dJ9_min_7cf53_2 : decode cJ9_min_7cf53 2 = .ok (.if_icmp .gt 7, 3) := by decide +kernel
theorem dJ9_min_7cf53_5 : decode cJ9_min_7cf53 5 = .ok (.iload_n 0, 1) := by decide +kernel
theorem dJ9_min_7cf53_6 : decode cJ9_min_7cf53 6 = .ok (.goto 4, 3) := by decide +kernel
theorem dJ9_min_7cf53_9 : decode cJ9_min_7cf53 9 = .ok (.iload_n 1, 1) := by decide +kernel
theorem dJ9_min_7cf53_10 : decode cJ9_min_7cf53 10 = .ok (.ireturn, 1) := by decide +kernel
