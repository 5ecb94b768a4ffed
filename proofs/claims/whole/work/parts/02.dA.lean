theorem dX0_init_0 : decode cX0_init 0 = .ok (.aload_n 0, 1) := by decide +kernel
theorem dX0_init_1 : decode cX0_init 1 = .ok (.invokespecial 3, 3) := by decide +kernel
theorem dX0_init_4 : decode cX0_init 4 = .ok (.aload_n 0, 1) := by decide +kernel
theorem dX0_init_5 : decode cX0_init 5 = .ok (.sipush 301, 3) := by decide +kernel
theorem dX0_init_8 : decode cX0_init 8 = .ok (.newarray .int, 2) := by decide +kernel
theorem dX0_init_10 : decode cX0_init 10 = .ok (.putfield 9, 3) := by decide +kernel
theorem dX0_init_13 : decode cX0_init 13 = .ok (.aload_n 0, 1) := by decide +kernel
theorem dX0_init_14 : decode cX0_init 14 = .ok (.aload_n 1, 1) := by decide +kernel
theorem dX0_init_15 : decode cX0_init 15 = .ok (.putfield 15, 3) := by decide +kernel
theorem dX0_init_18 : decode cX0_init 18 = .ok (.return_, 1) := by decide +kernel
theorem dX0_grantOf_0 : decode cX0_grantOf 0 = .ok (.aload_n 0, 1) := by decide +kernel
theorem dX0_grantOf_1 : decode cX0_grantOf 1 = .ok (.aload_n 1, 1) := by decide +kernel
theorem dX0_grantOf_2 : decode cX0_grantOf 2 = .ok (.iload_n 3, 1) := by decide +kernel
theorem dX0_grantOf_3 : decode cX0_grantOf 3 = .ok (.iload_n 2, 1) := by decide +kernel
theorem dX0_grantOf_4 : decode cX0_grantOf 4 = .ok (.invokestatic 19, 3) := by decide +kernel
theorem dX0_grantOf_7 : decode cX0_grantOf 7 = .ok (.aload_n 0, 1) := by decide +kernel
theorem dX0_grantOf_8 : decode cX0_grantOf 8 = .ok (.getfield 9, 3) := by decide +kernel
theorem dX0_grantOf_11 : decode cX0_grantOf 11 = .ok (.invokevirtual 23, 3) := by decide +kernel
theorem dX0_grantOf_14 : decode cX0_grantOf 14 = .ok (.aload_n 0, 1) := by decide +kernel
theorem dX0_grantOf_15 : decode cX0_grantOf 15 = .ok (.getfield 9, 3) := by decide +kernel
theorem dX0_grantOf_18 : decode cX0_grantOf 18 = .ok (.iload_n 2, 1) := by decide +kernel
theorem dX0_grantOf_19 : decode cX0_grantOf 19 = .ok (.iaload, 1) := by decide +kernel
theorem dX0_grantOf_20 : decode cX0_grantOf 20 = .ok (.ireturn, 1) := by decide +kernel
theorem dX0_natureOf_0 : decode cX0_natureOf 0 = .ok (.aload_n 0, 1) := by decide +kernel
theorem dX0_natureOf_1 : decode cX0_natureOf 1 = .ok (.aload_n 1, 1) := by decide +kernel
theorem dX0_natureOf_2 : decode cX0_natureOf 2 = .ok (.iload_n 3, 1) := by decide +kernel
theorem dX0_natureOf_3 : decode cX0_natureOf 3 = .ok (.iload_n 2, 1) := by decide +kernel
theorem dX0_natureOf_4 : decode cX0_natureOf 4 = .ok (.aload_n 0, 1) := by decide +kernel
theorem dX0_natureOf_5 : decode cX0_natureOf 5 = .ok (.getfield 9, 3) := by decide +kernel
theorem dX0_natureOf_8 : decode cX0_natureOf 8 = .ok (.invokevirtual 23, 3) := by decide +kernel
theorem dX0_natureOf_11 : decode cX0_natureOf 11 = .ok (.aload_n 0, 1) := by decide +kernel
theorem dX0_natureOf_12 : decode cX0_natureOf 12 = .ok (.getfield 27, 3) := by decide +kernel
theorem dX0_natureOf_15 : decode cX0_natureOf 15 = .ok (.iload_n 2, 1) := by decide +kernel
theorem dX0_natureOf_16 : decode cX0_natureOf 16 = .ok (.if_icmp .ne 10, 3) := by decide +kernel
theorem dX0_natureOf_19 : decode cX0_natureOf 19 = .ok (.aload_n 0, 1) := by decide +kernel
theorem dX0_natureOf_20 : decode cX0_natureOf 20 = .ok (.getfield 31, 3) := by decide +kernel
theorem dX0_natureOf_23 : decode cX0_natureOf 23 = .ok (.goto 4, 3) := by decide +kernel
theorem dX0_natureOf_26 : decode cX0_natureOf 26 = .ok (.iconst 0, 1) := by decide +kernel
theorem dX0_natureOf_27 : decode cX0_natureOf 27 = .ok (.ireturn, 1) := by decide +kernel
theorem dX0_goOver_0 : decode cX0_goOver 0 = .ok (.aload_n 0, 1) := by decide +kernel
theorem dX0_goOver_1 : decode cX0_goOver 1 = .ok (.aload_n 1, 1) := by decide +kernel
theorem dX0_goOver_2 : decode cX0_goOver 2 = .ok (.iload_n 2, 1) := by decide +kernel
theorem dX0_goOver_3 : decode cX0_goOver 3 = .ok (.invokevirtual 34, 3) := by decide +kernel
theorem dX0_goOver_6 : decode cX0_goOver 6 = .ok (.iload_n 3, 1) := by decide +kernel
theorem dX0_goOver_7 : decode cX0_goOver 7 = .ok (.bipush 7, 2) := by decide +kernel
theorem dX0_goOver_9 : decode cX0_goOver 9 = .ok (.idiv, 1) := by decide +kernel
theorem dX0_goOver_10 : decode cX0_goOver 10 = .ok (.sipush 300, 3) := by decide +kernel
theorem dX0_goOver_13 : decode cX0_goOver 13 = .ok (.invokestatic 38, 3) := by decide +kernel
theorem dX0_goOver_16 : decode cX0_goOver 16 = .ok (.istore 5, 2) := by decide +kernel
theorem dX0_goOver_18 : decode cX0_goOver 18 = .ok (.iconst 0, 1) := by decide +kernel
theorem dX0_goOver_19 : decode cX0_goOver 19 = .ok (.istore 6, 2) := by decide +kernel
theorem dX0_goOver_21 : decode cX0_goOver 21 = .ok (.iload 6, 2) := by decide +kernel
theorem dX0_goOver_23 : decode cX0_goOver 23 = .ok (.iload 5, 2) := by decide +kernel
theorem dX0_goOver_25 : decode cX0_goOver 25 = .ok (.if_icmp .gt 15, 3) := by decide +kernel
theorem dX0_goOver_28 : decode cX0_goOver 28 = .ok (.aload 4, 2) := by decide +kernel
theorem dX0_goOver_30 : decode cX0_goOver 30 = .ok (.iload 6, 2) := by decide +kernel
theorem dX0_goOver_32 : decode cX0_goOver 32 = .ok (.iconst 0, 1) := by decide +kernel
theorem dX0_goOver_33 : decode cX0_goOver 33 = .ok (.iastore, 1) := by decide +kernel
theorem dX0_goOver_34 : decode cX0_goOver 34 = .ok (.iinc 6 1, 3) := by decide +kernel
theorem dX0_goOver_37 : decode cX0_goOver 37 = .ok (.goto (-16), 3) := by decide +kernel
theorem dX0_goOver_40 : decode cX0_goOver 40 = .ok (.aload_n 1, 1) := by decide +kernel
theorem dX0_goOver_41 : decode cX0_goOver 41 = .ok (.getfield 44, 3) := by decide +kernel
theorem dX0_goOver_44 : decode cX0_goOver 44 = .ok (.astore 6, 2) := by decide +kernel
theorem dX0_goOver_46 : decode cX0_goOver 46 = .ok (.aload 6, 2) := by decide +kernel
theorem dX0_goOver_48 : decode cX0_goOver 48 = .ok (.ifnull 88, 3) := by decide +kernel
theorem dX0_goOver_51 : decode cX0_goOver 51 = .ok (.aload 6, 2) := by decide +kernel
theorem dX0_goOver_53 : decode cX0_goOver 53 = .ok (.iload_n 2, 1) := by decide +kernel
theorem dX0_goOver_54 : decode cX0_goOver 54 = .ok (.invokevirtual 50, 3) := by decide +kernel
theorem dX0_goOver_57 : decode cX0_goOver 57 = .ok (.ifCond .eq 69, 3) := by decide +kernel
theorem dX0_goOver_60 : decode cX0_goOver 60 = .ok (.aload 6, 2) := by decide +kernel
theorem dX0_goOver_62 : decode cX0_goOver 62 = .ok (.getfield 56, 3) := by decide +kernel
theorem dX0_goOver_65 : decode cX0_goOver 65 = .ok (.iload_n 3, 1) := by decide +kernel
theorem dX0_goOver_66 : decode cX0_goOver 66 = .ok (.invokestatic 38, 3) := by decide +kernel
theorem dX0_goOver_69 : decode cX0_goOver 69 = .ok (.istore 7, 2) := by decide +kernel
theorem dX0_goOver_71 : decode cX0_goOver 71 = .ok (.aload 6, 2) := by decide +kernel
theorem dX0_goOver_73 : decode cX0_goOver 73 = .ok (.getfield 59, 3) := by decide +kernel
theorem dX0_goOver_76 : decode cX0_goOver 76 = .ok (.aload_n 0, 1) := by decide +kernel
theorem dX0_goOver_77 : decode cX0_goOver 77 = .ok (.getfield 27, 3) := by decide +kernel
theorem dX0_goOver_80 : decode cX0_goOver 80 = .ok (.iconst 1, 1) := by decide +kernel
theorem dX0_goOver_81 : decode cX0_goOver 81 = .ok (.iadd, 1) := by decide +kernel
theorem dX0_goOver_82 : decode cX0_goOver 82 = .ok (.invokestatic 62, 3) := by decide +kernel
theorem dX0_goOver_85 : decode cX0_goOver 85 = .ok (.istore 8, 2) := by decide +kernel
theorem dX0_goOver_87 : decode cX0_goOver 87 = .ok (.iload 8, 2) := by decide +kernel
theorem dX0_goOver_89 : decode cX0_goOver 89 = .ok (.iload 7, 2) := by decide +kernel
theorem dX0_goOver_91 : decode cX0_goOver 91 = .ok (.if_icmp .gt 35, 3) := by decide +kernel
theorem dX0_goOver_94 : decode cX0_goOver 94 = .ok (.aload_n 0, 1) := by decide +kernel
theorem dX0_goOver_95 : decode cX0_goOver 95 = .ok (.iload 8, 2) := by decide +kernel
theorem dX0_goOver_97 : decode cX0_goOver 97 = .ok (.invokevirtual 65, 3) := by decide +kernel
theorem dX0_goOver_100 : decode cX0_goOver 100 = .ok (.aload 4, 2) := by decide +kernel
theorem dX0_goOver_102 : decode cX0_goOver 102 = .ok (.iload 8, 2) := by decide +kernel
theorem dX0_goOver_104 : decode cX0_goOver 104 = .ok (.bipush 7, 2) := by decide +kernel
theorem dX0_goOver_106 : decode cX0_goOver 106 = .ok (.idiv, 1) := by decide +kernel
theorem dX0_goOver_107 : decode cX0_goOver 107 = .ok (.dup2, 1) := by decide +kernel
theorem dX0_goOver_108 : decode cX0_goOver 108 = .ok (.iaload, 1) := by decide +kernel
theorem dX0_goOver_109 : decode cX0_goOver 109 = .ok (.aload_n 0, 1) := by decide +kernel
theorem dX0_goOver_110 : decode cX0_goOver 110 = .ok (.iload 8, 2) := by decide +kernel
theorem dX0_goOver_112 : decode cX0_goOver 112 = .ok (.bipush 7, 2) := by decide +kernel
theorem dX0_goOver_114 : decode cX0_goOver 114 = .ok (.idiv, 1) := by decide +kernel
theorem dX0_goOver_115 : decode cX0_goOver 115 = .ok (.invokevirtual 69, 3) := by decide +kernel
theorem dX0_goOver_118 : decode cX0_goOver 118 = .ok (.iadd, 1) := by decide +kernel
theorem dX0_goOver_119 : decode cX0_goOver 119 = .ok (.iastore, 1) := by decide +kernel
theorem dX0_goOver_120 : decode cX0_goOver 120 = .ok (.iinc 8 1, 3) := by decide +kernel
theorem dX0_goOver_123 : decode cX0_goOver 123 = .ok (.goto (-36), 3) := by decide +kernel
theorem dX0_goOver_126 : decode cX0_goOver 126 = .ok (.aload 6, 2) := by decide +kernel
theorem dX0_goOver_128 : decode cX0_goOver 128 = .ok (.getfield 72, 3) := by decide +kernel
theorem dX0_goOver_131 : decode cX0_goOver 131 = .ok (.astore 6, 2) := by decide +kernel
theorem dX0_goOver_133 : decode cX0_goOver 133 = .ok (.goto (-87), 3) := by decide +kernel
theorem dX0_goOver_136 : decode cX0_goOver 136 = .ok (.return_, 1) := by decide +kernel
theorem dX0_begin_0 : decode cX0_begin 0 = .ok (.aload_n 0, 1) := by decide +kernel
theorem dX0_begin_1 : decode cX0_begin 1 = .ok (.aload_n 1, 1) := by decide +kernel
theorem dX0_begin_2 : decode cX0_begin 2 = .ok (.putfield 75, 3) := by decide +kernel
theorem dX0_begin_5 : decode cX0_begin 5 = .ok (.aload_n 0, 1) := by decide +kernel
theorem dX0_begin_6 : decode cX0_begin 6 = .ok (.iload_n 2, 1) := by decide +kernel
theorem dX0_begin_7 : decode cX0_begin 7 = .ok (.putfield 79, 3) := by decide +kernel
theorem dX0_begin_10 : decode cX0_begin 10 = .ok (.aload_n 0, 1) := by decide +kernel
theorem dX0_begin_11 : decode cX0_begin 11 = .ok (.iconst (-1), 1) := by decide +kernel
theorem dX0_begin_12 : decode cX0_begin 12 = .ok (.putfield 27, 3) := by decide +kernel
theorem dX0_begin_15 : decode cX0_begin 15 = .ok (.aload_n 0, 1) := by decide +kernel
theorem dX0_begin_16 : decode cX0_begin 16 = .ok (.iconst 0, 1) := by decide +kernel
theorem dX0_begin_17 : decode cX0_begin 17 = .ok (.putfield 31, 3) := by decide +kernel
theorem dX0_begin_20 : decode cX0_begin 20 = .ok (.aload_n 0, 1) := by decide +kernel
theorem dX0_begin_21 : decode cX0_begin 21 = .ok (.iconst 0, 1) := by decide +kernel
theorem dX0_begin_22 : decode cX0_begin 22 = .ok (.putfield 82, 3) := by decide +kernel
theorem dX0_begin_25 : decode cX0_begin 25 = .ok (.aload_n 0, 1) := by decide +kernel
theorem dX0_begin_26 : decode cX0_begin 26 = .ok (.iconst (-1), 1) := by decide +kernel
theorem dX0_begin_27 : decode cX0_begin 27 = .ok (.putfield 85, 3) := by decide +kernel
theorem dX0_begin_30 : decode cX0_begin 30 = .ok (.return_, 1) := by decide +kernel
theorem dX0_goTo_0 : decode cX0_goTo 0 = .ok (.iload_n 1, 1) := by decide +kernel
theorem dX0_goTo_1 : decode cX0_goTo 1 = .ok (.bipush 7, 2) := by decide +kernel
theorem dX0_goTo_3 : decode cX0_goTo 3 = .ok (.idiv, 1) := by decide +kernel
theorem dX0_goTo_4 : decode cX0_goTo 4 = .ok (.istore_n 2, 1) := by decide +kernel
theorem dX0_goTo_5 : decode cX0_goTo 5 = .ok (.aload_n 0, 1) := by decide +kernel
theorem dX0_goTo_6 : decode cX0_goTo 6 = .ok (.getfield 27, 3) := by decide +kernel
theorem dX0_goTo_9 : decode cX0_goTo 9 = .ok (.iconst (-1), 1) := by decide +kernel
theorem dX0_goTo_10 : decode cX0_goTo 10 = .ok (.if_icmp .eq 25, 3) := by decide +kernel
theorem dX0_goTo_13 : decode cX0_goTo 13 = .ok (.iload_n 1, 1) := by decide +kernel
theorem dX0_goTo_14 : decode cX0_goTo 14 = .ok (.aload_n 0, 1) := by decide +kernel
theorem dX0_goTo_15 : decode cX0_goTo 15 = .ok (.getfield 27, 3) := by decide +kernel
theorem dX0_goTo_18 : decode cX0_goTo 18 = .ok (.isub, 1) := by decide +kernel
theorem dX0_goTo_19 : decode cX0_goTo 19 = .ok (.iconst 1, 1) := by decide +kernel
theorem dX0_goTo_20 : decode cX0_goTo 20 = .ok (.isub, 1) := by decide +kernel
theorem dX0_goTo_21 : decode cX0_goTo 21 = .ok (.aload_n 0, 1) := by decide +kernel
theorem dX0_goTo_22 : decode cX0_goTo 22 = .ok (.getfield 15, 3) := by decide +kernel
theorem dX0_goTo_25 : decode cX0_goTo 25 = .ok (.getfield 88, 3) := by decide +kernel
theorem dX0_goTo_28 : decode cX0_goTo 28 = .ok (.iconst 5, 1) := by decide +kernel
theorem dX0_goTo_29 : decode cX0_goTo 29 = .ok (.aaload, 1) := by decide +kernel
theorem dX0_goTo_30 : decode cX0_goTo 30 = .ok (.iload_n 2, 1) := by decide +kernel
theorem dX0_goTo_31 : decode cX0_goTo 31 = .ok (.iaload, 1) := by decide +kernel
theorem dX0_goTo_32 : decode cX0_goTo 32 = .ok (.if_icmp .le 8, 3) := by decide +kernel
theorem dX0_goTo_35 : decode cX0_goTo 35 = .ok (.aload_n 0, 1) := by decide +kernel
theorem dX0_goTo_36 : decode cX0_goTo 36 = .ok (.iload_n 2, 1) := by decide +kernel
theorem dX0_goTo_37 : decode cX0_goTo 37 = .ok (.invokevirtual 94, 3) := by decide +kernel
theorem dX0_goTo_40 : decode cX0_goTo 40 = .ok (.aload_n 0, 1) := by decide +kernel
theorem dX0_goTo_41 : decode cX0_goTo 41 = .ok (.iload_n 1, 1) := by decide +kernel
theorem dX0_goTo_42 : decode cX0_goTo 42 = .ok (.putfield 27, 3) := by decide +kernel
theorem dX0_goTo_45 : decode cX0_goTo 45 = .ok (.aload_n 0, 1) := by decide +kernel
theorem dX0_goTo_46 : decode cX0_goTo 46 = .ok (.dup, 1) := by decide +kernel
theorem dX0_goTo_47 : decode cX0_goTo 47 = .ok (.getfield 82, 3) := by decide +kernel
theorem dX0_goTo_50 : decode cX0_goTo 50 = .ok (.iconst 1, 1) := by decide +kernel
theorem dX0_goTo_51 : decode cX0_goTo 51 = .ok (.iadd, 1) := by decide +kernel
theorem dX0_goTo_52 : decode cX0_goTo 52 = .ok (.putfield 82, 3) := by decide +kernel
theorem dX0_goTo_55 : decode cX0_goTo 55 = .ok (.iload_n 2, 1) := by decide +kernel
theorem dX0_goTo_56 : decode cX0_goTo 56 = .ok (.aload_n 0, 1) := by decide +kernel
theorem dX0_goTo_57 : decode cX0_goTo 57 = .ok (.getfield 85, 3) := by decide +kernel
theorem dX0_goTo_60 : decode cX0_goTo 60 = .ok (.if_icmp .eq 28, 3) := by decide +kernel
theorem dX0_goTo_63 : decode cX0_goTo 63 = .ok (.aload_n 0, 1) := by decide +kernel
theorem dX0_goTo_64 : decode cX0_goTo 64 = .ok (.iload_n 2, 1) := by decide +kernel
theorem dX0_goTo_65 : decode cX0_goTo 65 = .ok (.putfield 85, 3) := by decide +kernel
theorem dX0_goTo_68 : decode cX0_goTo 68 = .ok (.aload_n 0, 1) := by decide +kernel
theorem dX0_goTo_69 : decode cX0_goTo 69 = .ok (.aload_n 0, 1) := by decide +kernel
theorem dX0_goTo_70 : decode cX0_goTo 70 = .ok (.getfield 75, 3) := by decide +kernel
theorem dX0_goTo_73 : decode cX0_goTo 73 = .ok (.iload_n 2, 1) := by decide +kernel
theorem dX0_goTo_74 : decode cX0_goTo 74 = .ok (.aload_n 0, 1) := by decide +kernel
theorem dX0_goTo_75 : decode cX0_goTo 75 = .ok (.getfield 79, 3) := by decide +kernel
theorem dX0_goTo_78 : decode cX0_goTo 78 = .ok (.aload_n 0, 1) := by decide +kernel
theorem dX0_goTo_79 : decode cX0_goTo 79 = .ok (.getfield 15, 3) := by decide +kernel
theorem dX0_goTo_82 : decode cX0_goTo 82 = .ok (.invokevirtual 97, 3) := by decide +kernel
theorem dX0_goTo_85 : decode cX0_goTo 85 = .ok (.putfield 101, 3) := by decide +kernel
theorem dX0_goTo_88 : decode cX0_goTo 88 = .ok (.aload_n 0, 1) := by decide +kernel
theorem dX0_goTo_89 : decode cX0_goTo 89 = .ok (.aload_n 0, 1) := by decide +kernel
theorem dX0_goTo_90 : decode cX0_goTo 90 = .ok (.getfield 101, 3) := by decide +kernel
theorem dX0_goTo_93 : decode cX0_goTo 93 = .ok (.ifCond .eq 7, 3) := by decide +kernel
theorem dX0_goTo_96 : decode cX0_goTo 96 = .ok (.iconst 5, 1) := by decide +kernel
theorem dX0_goTo_97 : decode cX0_goTo 97 = .ok (.goto 7, 3) := by decide +kernel
theorem dX0_goTo_100 : decode cX0_goTo 100 = .ok (.aload_n 0, 1) := by decide +kernel
theorem dX0_goTo_101 : decode cX0_goTo 101 = .ok (.invokevirtual 105, 3) := by decide +kernel
theorem dX0_goTo_104 : decode cX0_goTo 104 = .ok (.putfield 31, 3) := by decide +kernel
theorem dX0_goTo_107 : decode cX0_goTo 107 = .ok (.return_, 1) := by decide +kernel
theorem dX0_beginIllness_0 : decode cX0_beginIllness 0 = .ok (.aload_n 0, 1) := by decide +kernel
theorem dX0_beginIllness_1 : decode cX0_beginIllness 1 = .ok (.iconst 0, 1) := by decide +kernel
theorem dX0_beginIllness_2 : decode cX0_beginIllness 2 = .ok (.putfield 82, 3) := by decide +kernel
theorem dX0_beginIllness_5 : decode cX0_beginIllness 5 = .ok (.aload_n 0, 1) := by decide +kernel
theorem dX0_beginIllness_6 : decode cX0_beginIllness 6 = .ok (.aload_n 0, 1) := by decide +kernel
theorem dX0_beginIllness_7 : decode cX0_beginIllness 7 = .ok (.getfield 15, 3) := by decide +kernel
theorem dX0_beginIllness_10 : decode cX0_beginIllness 10 = .ok (.getfield 88, 3) := by decide +kernel
theorem dX0_beginIllness_13 : decode cX0_beginIllness 13 = .ok (.iconst 1, 1) := by decide +kernel
theorem dX0_beginIllness_14 : decode cX0_beginIllness 14 = .ok (.aaload, 1) := by decide +kernel
theorem dX0_beginIllness_15 : decode cX0_beginIllness 15 = .ok (.iload_n 1, 1) := by decide +kernel
theorem dX0_beginIllness_16 : decode cX0_beginIllness 16 = .ok (.iaload, 1) := by decide +kernel
theorem dX0_beginIllness_17 : decode cX0_beginIllness 17 = .ok (.putfield 109, 3) := by decide +kernel
theorem dX0_beginIllness_20 : decode cX0_beginIllness 20 = .ok (.aload_n 0, 1) := by decide +kernel
theorem dX0_beginIllness_21 : decode cX0_beginIllness 21 = .ok (.aload_n 0, 1) := by decide +kernel
theorem dX0_beginIllness_22 : decode cX0_beginIllness 22 = .ok (.getfield 109, 3) := by decide +kernel
theorem dX0_beginIllness_25 : decode cX0_beginIllness 25 = .ok (.aload_n 0, 1) := by decide +kernel
theorem dX0_beginIllness_26 : decode cX0_beginIllness 26 = .ok (.getfield 15, 3) := by decide +kernel
theorem dX0_beginIllness_29 : decode cX0_beginIllness 29 = .ok (.getfield 88, 3) := by decide +kernel
theorem dX0_beginIllness_32 : decode cX0_beginIllness 32 = .ok (.iconst 3, 1) := by decide +kernel
theorem dX0_beginIllness_33 : decode cX0_beginIllness 33 = .ok (.aaload, 1) := by decide +kernel
theorem dX0_beginIllness_34 : decode cX0_beginIllness 34 = .ok (.iload_n 1, 1) := by decide +kernel
theorem dX0_beginIllness_35 : decode cX0_beginIllness 35 = .ok (.iaload, 1) := by decide +kernel
theorem dX0_beginIllness_36 : decode cX0_beginIllness 36 = .ok (.iadd, 1) := by decide +kernel
theorem dX0_beginIllness_37 : decode cX0_beginIllness 37 = .ok (.putfield 112, 3) := by decide +kernel
theorem dX0_beginIllness_40 : decode cX0_beginIllness 40 = .ok (.aload_n 0, 1) := by decide +kernel
theorem dX0_beginIllness_41 : decode cX0_beginIllness 41 = .ok (.aload_n 0, 1) := by decide +kernel
theorem dX0_beginIllness_42 : decode cX0_beginIllness 42 = .ok (.getfield 112, 3) := by decide +kernel
theorem dX0_beginIllness_45 : decode cX0_beginIllness 45 = .ok (.aload_n 0, 1) := by decide +kernel
theorem dX0_beginIllness_46 : decode cX0_beginIllness 46 = .ok (.getfield 15, 3) := by decide +kernel
theorem dX0_beginIllness_49 : decode cX0_beginIllness 49 = .ok (.getfield 88, 3) := by decide +kernel
theorem dX0_beginIllness_52 : decode cX0_beginIllness 52 = .ok (.iconst 4, 1) := by decide +kernel
theorem dX0_beginIllness_53 : decode cX0_beginIllness 53 = .ok (.aaload, 1) := by decide +kernel
theorem dX0_beginIllness_54 : decode cX0_beginIllness 54 = .ok (.iload_n 1, 1) := by decide +kernel
theorem dX0_beginIllness_55 : decode cX0_beginIllness 55 = .ok (.iaload, 1) := by decide +kernel
theorem dX0_beginIllness_56 : decode cX0_beginIllness 56 = .ok (.iadd, 1) := by decide +kernel
theorem dX0_beginIllness_57 : decode cX0_beginIllness 57 = .ok (.putfield 115, 3) := by decide +kernel
theorem dX0_beginIllness_60 : decode cX0_beginIllness 60 = .ok (.return_, 1) := by decide +kernel
theorem dX0_natureOfNth_0 : decode cX0_natureOfNth 0 = .ok (.aload_n 0, 1) := by decide +kernel
theorem dX0_natureOfNth_1 : decode cX0_natureOfNth 1 = .ok (.getfield 82, 3) := by decide +kernel
theorem dX0_natureOfNth_4 : decode cX0_natureOfNth 4 = .ok (.aload_n 0, 1) := by decide +kernel
theorem dX0_natureOfNth_5 : decode cX0_natureOfNth 5 = .ok (.getfield 109, 3) := by decide +kernel
theorem dX0_natureOfNth_8 : decode cX0_natureOfNth 8 = .ok (.if_icmp .gt 5, 3) := by decide +kernel
theorem dX0_natureOfNth_11 : decode cX0_natureOfNth 11 = .ok (.iconst 1, 1) := by decide +kernel
theorem dX0_natureOfNth_12 : decode cX0_natureOfNth 12 = .ok (.ireturn, 1) := by decide +kernel
theorem dX0_natureOfNth_13 : decode cX0_natureOfNth 13 = .ok (.aload_n 0, 1) := by decide +kernel
theorem dX0_natureOfNth_14 : decode cX0_natureOfNth 14 = .ok (.getfield 82, 3) := by decide +kernel
theorem dX0_natureOfNth_17 : decode cX0_natureOfNth 17 = .ok (.aload_n 0, 1) := by decide +kernel
theorem dX0_natureOfNth_18 : decode cX0_natureOfNth 18 = .ok (.getfield 112, 3) := by decide +kernel
theorem dX0_natureOfNth_21 : decode cX0_natureOfNth 21 = .ok (.if_icmp .gt 5, 3) := by decide +kernel
theorem dX0_natureOfNth_24 : decode cX0_natureOfNth 24 = .ok (.iconst 2, 1) := by decide +kernel
theorem dX0_natureOfNth_25 : decode cX0_natureOfNth 25 = .ok (.ireturn, 1) := by decide +kernel
theorem dX0_natureOfNth_26 : decode cX0_natureOfNth 26 = .ok (.aload_n 0, 1) := by decide +kernel
theorem dX0_natureOfNth_27 : decode cX0_natureOfNth 27 = .ok (.getfield 82, 3) := by decide +kernel
theorem dX0_natureOfNth_30 : decode cX0_natureOfNth 30 = .ok (.aload_n 0, 1) := by decide +kernel
theorem dX0_natureOfNth_31 : decode cX0_natureOfNth 31 = .ok (.getfield 115, 3) := by decide +kernel
theorem dX0_natureOfNth_34 : decode cX0_natureOfNth 34 = .ok (.if_icmp .gt 7, 3) := by decide +kernel
theorem dX0_natureOfNth_37 : decode cX0_natureOfNth 37 = .ok (.iconst 3, 1) := by decide +kernel
theorem dX0_natureOfNth_38 : decode cX0_natureOfNth 38 = .ok (.goto 4, 3) := by decide +kernel
theorem dX0_natureOfNth_41 : decode cX0_natureOfNth 41 = .ok (.iconst 4, 1) := by decide +kernel
theorem dX0_natureOfNth_42 : decode cX0_natureOfNth 42 = .ok (.ireturn, 1) := by decide +kernel
theorem dX0_coins_0 : decode cX0_coins 0 = .ok (.aload_n 0, 1) := by decide +kernel
theorem dX0_coins_1 : decode cX0_coins 1 = .ok (.getfield 15, 3) := by decide +kernel
theorem dX0_coins_4 : decode cX0_coins 4 = .ok (.getfield 88, 3) := by decide +kernel
theorem dX0_coins_7 : decode cX0_coins 7 = .ok (.iconst 2, 1) := by decide +kernel
theorem dX0_coins_8 : decode cX0_coins 8 = .ok (.aaload, 1) := by decide +kernel
theorem dX0_coins_9 : decode cX0_coins 9 = .ok (.iload_n 1, 1) := by decide +kernel
theorem dX0_coins_10 : decode cX0_coins 10 = .ok (.iaload, 1) := by decide +kernel
theorem dX0_coins_11 : decode cX0_coins 11 = .ok (.istore_n 2, 1) := by decide +kernel
theorem dX0_coins_12 : decode cX0_coins 12 = .ok (.aload_n 0, 1) := by decide +kernel
theorem dX0_coins_13 : decode cX0_coins 13 = .ok (.getfield 31, 3) := by decide +kernel
theorem dX0_coins_16 : decode cX0_coins 16 = .ok (.tableswitch 38 2 4 #[28, 30, 34], 28) := by decide +kernel
theorem dX0_coins_44 : decode cX0_coins 44 = .ok (.iload_n 2, 1) := by decide +kernel
theorem dX0_coins_45 : decode cX0_coins 45 = .ok (.ireturn, 1) := by decide +kernel
theorem dX0_coins_46 : decode cX0_coins 46 = .ok (.iload_n 2, 1) := by decide +kernel
theorem dX0_coins_47 : decode cX0_coins 47 = .ok (.iconst 2, 1) := by decide +kernel
theorem dX0_coins_48 : decode cX0_coins 48 = .ok (.idiv, 1) := by decide +kernel
theorem dX0_coins_49 : decode cX0_coins 49 = .ok (.ireturn, 1) := by decide +kernel
theorem dX0_coins_50 : decode cX0_coins 50 = .ok (.iload_n 2, 1) := by decide +kernel
theorem dX0_coins_51 : decode cX0_coins 51 = .ok (.iconst 4, 1) := by decide +kernel
theorem dX0_coins_52 : decode cX0_coins 52 = .ok (.idiv, 1) := by decide +kernel
theorem dX0_coins_53 : decode cX0_coins 53 = .ok (.ireturn, 1) := by decide +kernel
theorem dX0_coins_54 : decode cX0_coins 54 = .ok (.iconst 0, 1) := by decide +kernel
theorem dX0_coins_55 : decode cX0_coins 55 = .ok (.ireturn, 1) := by decide +kernel
theorem dX1_init_0 : decode cX1_init 0 = .ok (.aload_n 0, 1) := by decide +kernel
theorem dX1_init_1 : decode cX1_init 1 = .ok (.invokespecial 3, 3) := by decide +kernel
theorem dX1_init_4 : decode cX1_init 4 = .ok (.aload_n 0, 1) := by decide +kernel
theorem dX1_init_5 : decode cX1_init 5 = .ok (.bipush 64, 2) := by decide +kernel
theorem dX1_init_7 : decode cX1_init 7 = .ok (.newarray .int, 2) := by decide +kernel
theorem dX1_init_9 : decode cX1_init 9 = .ok (.putfield 11, 3) := by decide +kernel
theorem dX1_init_12 : decode cX1_init 12 = .ok (.return_, 1) := by decide +kernel
theorem dX1_makeRoom_0 : decode cX1_makeRoom 0 = .ok (.iconst 4, 1) := by decide +kernel
theorem dX1_makeRoom_1 : decode cX1_makeRoom 1 = .ok (.aload_n 0, 1) := by decide +kernel
theorem dX1_makeRoom_2 : decode cX1_makeRoom 2 = .ok (.getfield 15, 3) := by decide +kernel
theorem dX1_makeRoom_5 : decode cX1_makeRoom 5 = .ok (.iload_n 1, 1) := by decide +kernel
theorem dX1_makeRoom_6 : decode cX1_makeRoom 6 = .ok (.iadd, 1) := by decide +kernel
theorem dX1_makeRoom_7 : decode cX1_makeRoom 7 = .ok (.imul, 1) := by decide +kernel
theorem dX1_makeRoom_8 : decode cX1_makeRoom 8 = .ok (.istore_n 2, 1) := by decide +kernel
theorem dX1_makeRoom_9 : decode cX1_makeRoom 9 = .ok (.iload_n 2, 1) := by decide +kernel
theorem dX1_makeRoom_10 : decode cX1_makeRoom 10 = .ok (.aload_n 0, 1) := by decide +kernel
theorem dX1_makeRoom_11 : decode cX1_makeRoom 11 = .ok (.getfield 11, 3) := by decide +kernel
theorem dX1_makeRoom_14 : decode cX1_makeRoom 14 = .ok (.arraylength, 1) := by decide +kernel
theorem dX1_makeRoom_15 : decode cX1_makeRoom 15 = .ok (.if_icmp .le 30, 3) := by decide +kernel
theorem dX1_makeRoom_18 : decode cX1_makeRoom 18 = .ok (.aload_n 0, 1) := by decide +kernel
theorem dX1_makeRoom_19 : decode cX1_makeRoom 19 = .ok (.aload_n 0, 1) := by decide +kernel
theorem dX1_makeRoom_20 : decode cX1_makeRoom 20 = .ok (.getfield 11, 3) := by decide +kernel
theorem dX1_makeRoom_23 : decode cX1_makeRoom 23 = .ok (.iload_n 2, 1) := by decide +kernel
theorem dX1_makeRoom_24 : decode cX1_makeRoom 24 = .ok (.iconst 2, 1) := by decide +kernel
theorem dX1_makeRoom_25 : decode cX1_makeRoom 25 = .ok (.aload_n 0, 1) := by decide +kernel
theorem dX1_makeRoom_26 : decode cX1_makeRoom 26 = .ok (.getfield 11, 3) := by decide +kernel
theorem dX1_makeRoom_29 : decode cX1_makeRoom 29 = .ok (.arraylength, 1) := by decide +kernel
theorem dX1_makeRoom_30 : decode cX1_makeRoom 30 = .ok (.imul, 1) := by decide +kernel
theorem dX1_makeRoom_31 : decode cX1_makeRoom 31 = .ok (.ldc 19, 2) := by decide +kernel
theorem dX1_makeRoom_33 : decode cX1_makeRoom 33 = .ok (.invokestatic 20, 3) := by decide +kernel
theorem dX1_makeRoom_36 : decode cX1_makeRoom 36 = .ok (.invokestatic 26, 3) := by decide +kernel
theorem dX1_makeRoom_39 : decode cX1_makeRoom 39 = .ok (.invokestatic 29, 3) := by decide +kernel
theorem dX1_makeRoom_42 : decode cX1_makeRoom 42 = .ok (.putfield 11, 3) := by decide +kernel
theorem dX1_makeRoom_45 : decode cX1_makeRoom 45 = .ok (.return_, 1) := by decide +kernel
theorem dX1_add_0 : decode cX1_add 0 = .ok (.iconst 4, 1) := by decide +kernel
theorem dX1_add_1 : decode cX1_add 1 = .ok (.aload_n 0, 1) := by decide +kernel
theorem dX1_add_2 : decode cX1_add 2 = .ok (.getfield 15, 3) := by decide +kernel
theorem dX1_add_5 : decode cX1_add 5 = .ok (.imul, 1) := by decide +kernel
theorem dX1_add_6 : decode cX1_add 6 = .ok (.istore 5, 2) := by decide +kernel
theorem dX1_add_8 : decode cX1_add 8 = .ok (.iload 5, 2) := by decide +kernel
theorem dX1_add_10 : decode cX1_add 10 = .ok (.iconst 4, 1) := by decide +kernel
theorem dX1_add_11 : decode cX1_add 11 = .ok (.iadd, 1) := by decide +kernel
theorem dX1_add_12 : decode cX1_add 12 = .ok (.aload_n 0, 1) := by decide +kernel
theorem dX1_add_13 : decode cX1_add 13 = .ok (.getfield 11, 3) := by decide +kernel
theorem dX1_add_16 : decode cX1_add 16 = .ok (.arraylength, 1) := by decide +kernel
theorem dX1_add_17 : decode cX1_add 17 = .ok (.if_icmp .le 4, 3) := by decide +kernel
theorem dX1_add_20 : decode cX1_add 20 = .ok (.return_, 1) := by decide +kernel
theorem dX1_add_21 : decode cX1_add 21 = .ok (.aload_n 0, 1) := by decide +kernel
theorem dX1_add_22 : decode cX1_add 22 = .ok (.getfield 11, 3) := by decide +kernel
theorem dX1_add_25 : decode cX1_add 25 = .ok (.iload 5, 2) := by decide +kernel
theorem dX1_add_27 : decode cX1_add 27 = .ok (.iload_n 1, 1) := by decide +kernel
theorem dX1_add_28 : decode cX1_add 28 = .ok (.iastore, 1) := by decide +kernel
theorem dX1_add_29 : decode cX1_add 29 = .ok (.aload_n 0, 1) := by decide +kernel
theorem dX1_add_30 : decode cX1_add 30 = .ok (.getfield 11, 3) := by decide +kernel
theorem dX1_add_33 : decode cX1_add 33 = .ok (.iload 5, 2) := by decide +kernel
theorem dX1_add_35 : decode cX1_add 35 = .ok (.iconst 1, 1) := by decide +kernel
theorem dX1_add_36 : decode cX1_add 36 = .ok (.iadd, 1) := by decide +kernel
theorem dX1_add_37 : decode cX1_add 37 = .ok (.iload_n 2, 1) := by decide +kernel
theorem dX1_add_38 : decode cX1_add 38 = .ok (.iastore, 1) := by decide +kernel
theorem dX1_add_39 : decode cX1_add 39 = .ok (.aload_n 0, 1) := by decide +kernel
theorem dX1_add_40 : decode cX1_add 40 = .ok (.getfield 11, 3) := by decide +kernel
theorem dX1_add_43 : decode cX1_add 43 = .ok (.iload 5, 2) := by decide +kernel
theorem dX1_add_45 : decode cX1_add 45 = .ok (.iconst 2, 1) := by decide +kernel
theorem dX1_add_46 : decode cX1_add 46 = .ok (.iadd, 1) := by decide +kernel
theorem dX1_add_47 : decode cX1_add 47 = .ok (.iload_n 3, 1) := by decide +kernel
theorem dX1_add_48 : decode cX1_add 48 = .ok (.iastore, 1) := by decide +kernel
theorem dX1_add_49 : decode cX1_add 49 = .ok (.aload_n 0, 1) := by decide +kernel
theorem dX1_add_50 : decode cX1_add 50 = .ok (.getfield 11, 3) := by decide +kernel
theorem dX1_add_53 : decode cX1_add 53 = .ok (.iload 5, 2) := by decide +kernel
theorem dX1_add_55 : decode cX1_add 55 = .ok (.iconst 3, 1) := by decide +kernel
theorem dX1_add_56 : decode cX1_add 56 = .ok (.iadd, 1) := by decide +kernel
theorem dX1_add_57 : decode cX1_add 57 = .ok (.iload 4, 2) := by decide +kernel
theorem dX1_add_59 : decode cX1_add 59 = .ok (.iastore, 1) := by decide +kernel
theorem dX1_add_60 : decode cX1_add 60 = .ok (.aload_n 0, 1) := by decide +kernel
theorem dX1_add_61 : decode cX1_add 61 = .ok (.dup, 1) := by decide +kernel
theorem dX1_add_62 : decode cX1_add 62 = .ok (.getfield 15, 3) := by decide +kernel
theorem dX1_add_65 : decode cX1_add 65 = .ok (.iconst 1, 1) := by decide +kernel
theorem dX1_add_66 : decode cX1_add 66 = .ok (.iadd, 1) := by decide +kernel
theorem dX1_add_67 : decode cX1_add 67 = .ok (.putfield 15, 3) := by decide +kernel
theorem dX1_add_70 : decode cX1_add 70 = .ok (.return_, 1) := by decide +kernel
theorem dX1_tell_0 : decode cX1_tell 0 = .ok (.iload_n 1, 1) := by decide +kernel
theorem dX1_tell_1 : decode cX1_tell 1 = .ok (.ifCond .lt 20, 3) := by decide +kernel
theorem dX1_tell_4 : decode cX1_tell 4 = .ok (.iload_n 1, 1) := by decide +kernel
theorem dX1_tell_5 : decode cX1_tell 5 = .ok (.aload_n 0, 1) := by decide +kernel
theorem dX1_tell_6 : decode cX1_tell 6 = .ok (.getfield 15, 3) := by decide +kernel
theorem dX1_tell_9 : decode cX1_tell 9 = .ok (.if_icmp .ge 12, 3) := by decide +kernel
theorem dX1_tell_12 : decode cX1_tell 12 = .ok (.iload_n 2, 1) := by decide +kernel
theorem dX1_tell_13 : decode cX1_tell 13 = .ok (.ifCond .lt 8, 3) := by decide +kernel
theorem dX1_tell_16 : decode cX1_tell 16 = .ok (.iload_n 2, 1) := by decide +kernel
theorem dX1_tell_17 : decode cX1_tell 17 = .ok (.iconst 4, 1) := by decide +kernel
theorem dX1_tell_18 : decode cX1_tell 18 = .ok (.if_icmp .lt 6, 3) := by decide +kernel
theorem dX1_tell_21 : decode cX1_tell 21 = .ok (.ldc 35, 2) := by decide +kernel
theorem dX1_tell_23 : decode cX1_tell 23 = .ok (.ireturn, 1) := by decide +kernel
theorem dX1_tell_24 : decode cX1_tell 24 = .ok (.aload_n 0, 1) := by decide +kernel
theorem dX1_tell_25 : decode cX1_tell 25 = .ok (.getfield 11, 3) := by decide +kernel
theorem dX1_tell_28 : decode cX1_tell 28 = .ok (.iconst 4, 1) := by decide +kernel
theorem dX1_tell_29 : decode cX1_tell 29 = .ok (.iload_n 1, 1) := by decide +kernel
theorem dX1_tell_30 : decode cX1_tell 30 = .ok (.imul, 1) := by decide +kernel
theorem dX1_tell_31 : decode cX1_tell 31 = .ok (.iload_n 2, 1) := by decide +kernel
theorem dX1_tell_32 : decode cX1_tell 32 = .ok (.iadd, 1) := by decide +kernel
theorem dX1_tell_33 : decode cX1_tell 33 = .ok (.iaload, 1) := by decide +kernel
theorem dX1_tell_34 : decode cX1_tell 34 = .ok (.ireturn, 1) := by decide +kernel
theorem dX2_init_0 : decode cX2_init 0 = .ok (.aload_n 0, 1) := by decide +kernel
theorem dX2_init_1 : decode cX2_init 1 = .ok (.invokespecial 3, 3) := by decide +kernel
theorem dX2_init_4 : decode cX2_init 4 = .ok (.aload_n 0, 1) := by decide +kernel
theorem dX2_init_5 : decode cX2_init 5 = .ok (.sipush 301, 3) := by decide +kernel
theorem dX2_init_8 : decode cX2_init 8 = .ok (.newarray .int, 2) := by decide +kernel
theorem dX2_init_10 : decode cX2_init 10 = .ok (.putfield 9, 3) := by decide +kernel
theorem dX2_init_13 : decode cX2_init 13 = .ok (.aload_n 0, 1) := by decide +kernel
theorem dX2_init_14 : decode cX2_init 14 = .ok (.sipush 301, 3) := by decide +kernel
theorem dX2_init_17 : decode cX2_init 17 = .ok (.newarray .int, 2) := by decide +kernel
theorem dX2_init_19 : decode cX2_init 19 = .ok (.putfield 15, 3) := by decide +kernel
theorem dX2_init_22 : decode cX2_init 22 = .ok (.aload_n 0, 1) := by decide +kernel
theorem dX2_init_23 : decode cX2_init 23 = .ok (.sipush 301, 3) := by decide +kernel
theorem dX2_init_26 : decode cX2_init 26 = .ok (.newarray .int, 2) := by decide +kernel
theorem dX2_init_28 : decode cX2_init 28 = .ok (.putfield 18, 3) := by decide +kernel
theorem dX2_init_31 : decode cX2_init 31 = .ok (.aload_n 0, 1) := by decide +kernel
theorem dX2_init_32 : decode cX2_init 32 = .ok (.iload_n 1, 1) := by decide +kernel
theorem dX2_init_33 : decode cX2_init 33 = .ok (.putfield 21, 3) := by decide +kernel
theorem dX2_init_36 : decode cX2_init 36 = .ok (.aload_n 0, 1) := by decide +kernel
theorem dX2_init_37 : decode cX2_init 37 = .ok (.iload_n 2, 1) := by decide +kernel
theorem dX2_init_38 : decode cX2_init 38 = .ok (.putfield 25, 3) := by decide +kernel
theorem dX2_init_41 : decode cX2_init 41 = .ok (.aload_n 0, 1) := by decide +kernel
theorem dX2_init_42 : decode cX2_init 42 = .ok (.iload_n 3, 1) := by decide +kernel
theorem dX2_init_43 : decode cX2_init 43 = .ok (.putfield 28, 3) := by decide +kernel
theorem dX2_init_46 : decode cX2_init 46 = .ok (.return_, 1) := by decide +kernel
theorem dX2_take_0 : decode cX2_take 0 = .ok (.aconst_null, 1) := by decide +kernel
theorem dX2_take_1 : decode cX2_take 1 = .ok (.astore_n 2, 1) := by decide +kernel
theorem dX2_take_2 : decode cX2_take 2 = .ok (.aload_n 0, 1) := by decide +kernel
theorem dX2_take_3 : decode cX2_take 3 = .ok (.getfield 31, 3) := by decide +kernel
theorem dX2_take_6 : decode cX2_take 6 = .ok (.astore_n 3, 1) := by decide +kernel
theorem dX2_take_7 : decode cX2_take 7 = .ok (.aload_n 3, 1) := by decide +kernel
theorem dX2_take_8 : decode cX2_take 8 = .ok (.ifnull 24, 3) := by decide +kernel
theorem dX2_take_11 : decode cX2_take 11 = .ok (.aload_n 3, 1) := by decide +kernel
theorem dX2_take_12 : decode cX2_take 12 = .ok (.getfield 35, 3) := by decide +kernel
theorem dX2_take_15 : decode cX2_take 15 = .ok (.aload_n 1, 1) := by decide +kernel
theorem dX2_take_16 : decode cX2_take 16 = .ok (.getfield 35, 3) := by decide +kernel
theorem dX2_take_19 : decode cX2_take 19 = .ok (.if_icmp .gt 13, 3) := by decide +kernel
theorem dX2_take_22 : decode cX2_take 22 = .ok (.aload_n 3, 1) := by decide +kernel
theorem dX2_take_23 : decode cX2_take 23 = .ok (.astore_n 2, 1) := by decide +kernel
theorem dX2_take_24 : decode cX2_take 24 = .ok (.aload_n 3, 1) := by decide +kernel
theorem dX2_take_25 : decode cX2_take 25 = .ok (.getfield 40, 3) := by decide +kernel
theorem dX2_take_28 : decode cX2_take 28 = .ok (.astore_n 3, 1) := by decide +kernel
theorem dX2_take_29 : decode cX2_take 29 = .ok (.goto (-22), 3) := by decide +kernel
theorem dX2_take_32 : decode cX2_take 32 = .ok (.aload_n 1, 1) := by decide +kernel
theorem dX2_take_33 : decode cX2_take 33 = .ok (.aload_n 3, 1) := by decide +kernel
theorem dX2_take_34 : decode cX2_take 34 = .ok (.putfield 40, 3) := by decide +kernel
theorem dX2_take_37 : decode cX2_take 37 = .ok (.aload_n 2, 1) := by decide +kernel
theorem dX2_take_38 : decode cX2_take 38 = .ok (.ifnonnull 11, 3) := by decide +kernel
theorem dX2_take_41 : decode cX2_take 41 = .ok (.aload_n 0, 1) := by decide +kernel
theorem dX2_take_42 : decode cX2_take 42 = .ok (.aload_n 1, 1) := by decide +kernel
theorem dX2_take_43 : decode cX2_take 43 = .ok (.putfield 31, 3) := by decide +kernel
theorem dX2_take_46 : decode cX2_take 46 = .ok (.goto 8, 3) := by decide +kernel
theorem dX2_take_49 : decode cX2_take 49 = .ok (.aload_n 2, 1) := by decide +kernel
theorem dX2_take_50 : decode cX2_take 50 = .ok (.aload_n 1, 1) := by decide +kernel
theorem dX2_take_51 : decode cX2_take 51 = .ok (.putfield 40, 3) := by decide +kernel
theorem dX2_take_54 : decode cX2_take 54 = .ok (.return_, 1) := by decide +kernel
theorem dX2_arrearsIn_0 : decode cX2_arrearsIn 0 = .ok (.iload_n 1, 1) := by decide +kernel
theorem dX2_arrearsIn_1 : decode cX2_arrearsIn 1 = .ok (.aload_n 0, 1) := by decide +kernel
theorem dX2_arrearsIn_2 : decode cX2_arrearsIn 2 = .ok (.getfield 28, 3) := by decide +kernel
theorem dX2_arrearsIn_5 : decode cX2_arrearsIn 5 = .ok (.if_icmp .le 22, 3) := by decide +kernel
theorem dX2_arrearsIn_8 : decode cX2_arrearsIn 8 = .ok (.aload_n 3, 1) := by decide +kernel
theorem dX2_arrearsIn_9 : decode cX2_arrearsIn 9 = .ok (.getfield 43, 3) := by decide +kernel
theorem dX2_arrearsIn_12 : decode cX2_arrearsIn 12 = .ok (.iload_n 1, 1) := by decide +kernel
theorem dX2_arrearsIn_13 : decode cX2_arrearsIn 13 = .ok (.iaload, 1) := by decide +kernel
theorem dX2_arrearsIn_14 : decode cX2_arrearsIn 14 = .ok (.aload_n 3, 1) := by decide +kernel
theorem dX2_arrearsIn_15 : decode cX2_arrearsIn 15 = .ok (.getfield 43, 3) := by decide +kernel
theorem dX2_arrearsIn_18 : decode cX2_arrearsIn 18 = .ok (.aload_n 0, 1) := by decide +kernel
theorem dX2_arrearsIn_19 : decode cX2_arrearsIn 19 = .ok (.getfield 28, 3) := by decide +kernel
theorem dX2_arrearsIn_22 : decode cX2_arrearsIn 22 = .ok (.iaload, 1) := by decide +kernel
theorem dX2_arrearsIn_23 : decode cX2_arrearsIn 23 = .ok (.isub, 1) := by decide +kernel
theorem dX2_arrearsIn_24 : decode cX2_arrearsIn 24 = .ok (.goto 4, 3) := by decide +kernel
theorem dX2_arrearsIn_27 : decode cX2_arrearsIn 27 = .ok (.iconst 0, 1) := by decide +kernel
theorem dX2_arrearsIn_28 : decode cX2_arrearsIn 28 = .ok (.istore 4, 2) := by decide +kernel
theorem dX2_arrearsIn_30 : decode cX2_arrearsIn 30 = .ok (.iload 4, 2) := by decide +kernel
theorem dX2_arrearsIn_32 : decode cX2_arrearsIn 32 = .ok (.aload_n 0, 1) := by decide +kernel
theorem dX2_arrearsIn_33 : decode cX2_arrearsIn 33 = .ok (.getfield 9, 3) := by decide +kernel
theorem dX2_arrearsIn_36 : decode cX2_arrearsIn 36 = .ok (.iload_n 1, 1) := by decide +kernel
theorem dX2_arrearsIn_37 : decode cX2_arrearsIn 37 = .ok (.iload_n 2, 1) := by decide +kernel
theorem dX2_arrearsIn_38 : decode cX2_arrearsIn 38 = .ok (.invokestatic 48, 3) := by decide +kernel
theorem dX2_arrearsIn_41 : decode cX2_arrearsIn 41 = .ok (.iaload, 1) := by decide +kernel
theorem dX2_arrearsIn_42 : decode cX2_arrearsIn 42 = .ok (.isub, 1) := by decide +kernel
theorem dX2_arrearsIn_43 : decode cX2_arrearsIn 43 = .ok (.ireturn, 1) := by decide +kernel
theorem dX2_isOutIn_0 : decode cX2_isOutIn 0 = .ok (.aload_n 0, 1) := by decide +kernel
theorem dX2_isOutIn_1 : decode cX2_isOutIn 1 = .ok (.iload_n 1, 1) := by decide +kernel
theorem dX2_isOutIn_2 : decode cX2_isOutIn 2 = .ok (.iload_n 2, 1) := by decide +kernel
theorem dX2_isOutIn_3 : decode cX2_isOutIn 3 = .ok (.aload_n 3, 1) := by decide +kernel
theorem dX2_isOutIn_4 : decode cX2_isOutIn 4 = .ok (.invokevirtual 54, 3) := by decide +kernel
theorem dX2_isOutIn_7 : decode cX2_isOutIn 7 = .ok (.aload_n 3, 1) := by decide +kernel
theorem dX2_isOutIn_8 : decode cX2_isOutIn 8 = .ok (.getfield 58, 3) := by decide +kernel
theorem dX2_isOutIn_11 : decode cX2_isOutIn 11 = .ok (.bipush 6, 2) := by decide +kernel
theorem dX2_isOutIn_13 : decode cX2_isOutIn 13 = .ok (.aaload, 1) := by decide +kernel
theorem dX2_isOutIn_14 : decode cX2_isOutIn 14 = .ok (.iload_n 1, 1) := by decide +kernel
theorem dX2_isOutIn_15 : decode cX2_isOutIn 15 = .ok (.iaload, 1) := by decide +kernel
theorem dX2_isOutIn_16 : decode cX2_isOutIn 16 = .ok (.aload_n 3, 1) := by decide +kernel
theorem dX2_isOutIn_17 : decode cX2_isOutIn 17 = .ok (.getfield 58, 3) := by decide +kernel
theorem dX2_isOutIn_20 : decode cX2_isOutIn 20 = .ok (.iconst 0, 1) := by decide +kernel
theorem dX2_isOutIn_21 : decode cX2_isOutIn 21 = .ok (.aaload, 1) := by decide +kernel
theorem dX2_isOutIn_22 : decode cX2_isOutIn 22 = .ok (.iload_n 1, 1) := by decide +kernel
theorem dX2_isOutIn_23 : decode cX2_isOutIn 23 = .ok (.iaload, 1) := by decide +kernel
theorem dX2_isOutIn_24 : decode cX2_isOutIn 24 = .ok (.imul, 1) := by decide +kernel
theorem dX2_isOutIn_25 : decode cX2_isOutIn 25 = .ok (.if_icmp .le 7, 3) := by decide +kernel
theorem dX2_isOutIn_28 : decode cX2_isOutIn 28 = .ok (.iconst 1, 1) := by decide +kernel
theorem dX2_isOutIn_29 : decode cX2_isOutIn 29 = .ok (.goto 4, 3) := by decide +kernel
theorem dX2_isOutIn_32 : decode cX2_isOutIn 32 = .ok (.iconst 0, 1) := by decide +kernel
theorem dX2_isOutIn_33 : decode cX2_isOutIn 33 = .ok (.ireturn, 1) := by decide +kernel
theorem dX2_differenceIn_0 : decode cX2_differenceIn 0 = .ok (.aload_n 0, 1) := by decide +kernel
theorem dX2_differenceIn_1 : decode cX2_differenceIn 1 = .ok (.getfield 18, 3) := by decide +kernel
theorem dX2_differenceIn_4 : decode cX2_differenceIn 4 = .ok (.iload_n 1, 1) := by decide +kernel
theorem dX2_differenceIn_5 : decode cX2_differenceIn 5 = .ok (.iaload, 1) := by decide +kernel
theorem dX2_differenceIn_6 : decode cX2_differenceIn 6 = .ok (.aload_n 0, 1) := by decide +kernel
theorem dX2_differenceIn_7 : decode cX2_differenceIn 7 = .ok (.getfield 15, 3) := by decide +kernel
theorem dX2_differenceIn_10 : decode cX2_differenceIn 10 = .ok (.iload_n 1, 1) := by decide +kernel
theorem dX2_differenceIn_11 : decode cX2_differenceIn 11 = .ok (.iaload, 1) := by decide +kernel
theorem dX2_differenceIn_12 : decode cX2_differenceIn 12 = .ok (.isub, 1) := by decide +kernel
theorem dX2_differenceIn_13 : decode cX2_differenceIn 13 = .ok (.ireturn, 1) := by decide +kernel
theorem dX2_differencesUpTo_0 : decode cX2_differencesUpTo 0 = .ok (.iconst 0, 1) := by decide +kernel
theorem dX2_differencesUpTo_1 : decode cX2_differencesUpTo 1 = .ok (.istore_n 2, 1) := by decide +kernel
theorem dX2_differencesUpTo_2 : decode cX2_differencesUpTo 2 = .ok (.iconst 0, 1) := by decide +kernel
theorem dX2_differencesUpTo_3 : decode cX2_differencesUpTo 3 = .ok (.istore_n 3, 1) := by decide +kernel
theorem dX2_differencesUpTo_4 : decode cX2_differencesUpTo 4 = .ok (.iload_n 3, 1) := by decide +kernel
theorem dX2_differencesUpTo_5 : decode cX2_differencesUpTo 5 = .ok (.iload_n 1, 1) := by decide +kernel
theorem dX2_differencesUpTo_6 : decode cX2_differencesUpTo 6 = .ok (.if_icmp .gt 20, 3) := by decide +kernel
theorem dX2_differencesUpTo_9 : decode cX2_differencesUpTo 9 = .ok (.aload_n 0, 1) := by decide +kernel
theorem dX2_differencesUpTo_10 : decode cX2_differencesUpTo 10 = .ok (.iload_n 3, 1) := by decide +kernel
theorem dX2_differencesUpTo_11 : decode cX2_differencesUpTo 11 = .ok (.invokevirtual 62, 3) := by decide +kernel
theorem dX2_differencesUpTo_14 : decode cX2_differencesUpTo 14 = .ok (.ifCond .eq 6, 3) := by decide +kernel
theorem dX2_differencesUpTo_17 : decode cX2_differencesUpTo 17 = .ok (.iinc 2 1, 3) := by decide +kernel
theorem dX2_differencesUpTo_20 : decode cX2_differencesUpTo 20 = .ok (.iinc 3 1, 3) := by decide +kernel
theorem dX2_differencesUpTo_23 : decode cX2_differencesUpTo 23 = .ok (.goto (-19), 3) := by decide +kernel
theorem dX2_differencesUpTo_26 : decode cX2_differencesUpTo 26 = .ok (.iload_n 2, 1) := by decide +kernel
theorem dX2_differencesUpTo_27 : decode cX2_differencesUpTo 27 = .ok (.ireturn, 1) := by decide +kernel
theorem dX2_bookDifferenceIn_0 : decode cX2_bookDifferenceIn 0 = .ok (.aload_n 0, 1) := by decide +kernel
theorem dX2_bookDifferenceIn_1 : decode cX2_bookDifferenceIn 1 = .ok (.dup, 1) := by decide +kernel
theorem dX2_bookDifferenceIn_2 : decode cX2_bookDifferenceIn 2 = .ok (.getfield 66, 3) := by decide +kernel
theorem dX2_bookDifferenceIn_5 : decode cX2_bookDifferenceIn 5 = .ok (.aload_n 0, 1) := by decide +kernel
theorem dX2_bookDifferenceIn_6 : decode cX2_bookDifferenceIn 6 = .ok (.iload_n 1, 1) := by decide +kernel
theorem dX2_bookDifferenceIn_7 : decode cX2_bookDifferenceIn 7 = .ok (.invokevirtual 62, 3) := by decide +kernel
theorem dX2_bookDifferenceIn_10 : decode cX2_bookDifferenceIn 10 = .ok (.iadd, 1) := by decide +kernel
theorem dX2_bookDifferenceIn_11 : decode cX2_bookDifferenceIn 11 = .ok (.putfield 66, 3) := by decide +kernel
theorem dX2_bookDifferenceIn_14 : decode cX2_bookDifferenceIn 14 = .ok (.aload_n 0, 1) := by decide +kernel
theorem dX2_bookDifferenceIn_15 : decode cX2_bookDifferenceIn 15 = .ok (.getfield 15, 3) := by decide +kernel
theorem dX2_bookDifferenceIn_18 : decode cX2_bookDifferenceIn 18 = .ok (.iload_n 1, 1) := by decide +kernel
theorem dX2_bookDifferenceIn_19 : decode cX2_bookDifferenceIn 19 = .ok (.aload_n 0, 1) := by decide +kernel
theorem dX2_bookDifferenceIn_20 : decode cX2_bookDifferenceIn 20 = .ok (.getfield 18, 3) := by decide +kernel
theorem dX2_bookDifferenceIn_23 : decode cX2_bookDifferenceIn 23 = .ok (.iload_n 1, 1) := by decide +kernel
theorem dX2_bookDifferenceIn_24 : decode cX2_bookDifferenceIn 24 = .ok (.iaload, 1) := by decide +kernel
theorem dX2_bookDifferenceIn_25 : decode cX2_bookDifferenceIn 25 = .ok (.iastore, 1) := by decide +kernel
theorem dX2_bookDifferenceIn_26 : decode cX2_bookDifferenceIn 26 = .ok (.return_, 1) := by decide +kernel
theorem dX2_endWeek_0 : decode cX2_endWeek 0 = .ok (.aload_n 0, 1) := by decide +kernel
theorem dX2_endWeek_1 : decode cX2_endWeek 1 = .ok (.iconst 0, 1) := by decide +kernel
theorem dX2_endWeek_2 : decode cX2_endWeek 2 = .ok (.putfield 69, 3) := by decide +kernel
theorem dX2_endWeek_5 : decode cX2_endWeek 5 = .ok (.iload_n 1, 1) := by decide +kernel
theorem dX2_endWeek_6 : decode cX2_endWeek 6 = .ok (.ifCond .lt 24, 3) := by decide +kernel
theorem dX2_endWeek_9 : decode cX2_endWeek 9 = .ok (.iload_n 1, 1) := by decide +kernel
theorem dX2_endWeek_10 : decode cX2_endWeek 10 = .ok (.sipush 300, 3) := by decide +kernel
theorem dX2_endWeek_13 : decode cX2_endWeek 13 = .ok (.if_icmp .ge 17, 3) := by decide +kernel
theorem dX2_endWeek_16 : decode cX2_endWeek 16 = .ok (.aload_n 0, 1) := by decide +kernel
theorem dX2_endWeek_17 : decode cX2_endWeek 17 = .ok (.getfield 9, 3) := by decide +kernel
theorem dX2_endWeek_20 : decode cX2_endWeek 20 = .ok (.iload_n 1, 1) := by decide +kernel
theorem dX2_endWeek_21 : decode cX2_endWeek 21 = .ok (.iconst 1, 1) := by decide +kernel
theorem dX2_endWeek_22 : decode cX2_endWeek 22 = .ok (.iadd, 1) := by decide +kernel
theorem dX2_endWeek_23 : decode cX2_endWeek 23 = .ok (.aload_n 0, 1) := by decide +kernel
theorem dX2_endWeek_24 : decode cX2_endWeek 24 = .ok (.getfield 9, 3) := by decide +kernel
theorem dX2_endWeek_27 : decode cX2_endWeek 27 = .ok (.iload_n 1, 1) := by decide +kernel
theorem dX2_endWeek_28 : decode cX2_endWeek 28 = .ok (.iaload, 1) := by decide +kernel
theorem dX2_endWeek_29 : decode cX2_endWeek 29 = .ok (.iastore, 1) := by decide +kernel
theorem dX2_endWeek_30 : decode cX2_endWeek 30 = .ok (.return_, 1) := by decide +kernel
theorem dX3_init_0 : decode cX3_init 0 = .ok (.aload_n 0, 1) := by decide +kernel
theorem dX3_init_1 : decode cX3_init 1 = .ok (.invokespecial 3, 3) := by decide +kernel
theorem dX3_init_4 : decode cX3_init 4 = .ok (.aload_n 0, 1) := by decide +kernel
theorem dX3_init_5 : decode cX3_init 5 = .ok (.iconst (-1), 1) := by decide +kernel
theorem dX3_init_6 : decode cX3_init 6 = .ok (.putfield 9, 3) := by decide +kernel
theorem dX3_init_9 : decode cX3_init 9 = .ok (.aload_n 0, 1) := by decide +kernel
theorem dX3_init_10 : decode cX3_init 10 = .ok (.iload_n 1, 1) := by decide +kernel
theorem dX3_init_11 : decode cX3_init 11 = .ok (.putfield 15, 3) := by decide +kernel
theorem dX3_init_14 : decode cX3_init 14 = .ok (.aload_n 0, 1) := by decide +kernel
theorem dX3_init_15 : decode cX3_init 15 = .ok (.iload_n 2, 1) := by decide +kernel
theorem dX3_init_16 : decode cX3_init 16 = .ok (.putfield 18, 3) := by decide +kernel
theorem dX3_init_19 : decode cX3_init 19 = .ok (.aload_n 0, 1) := by decide +kernel
theorem dX3_init_20 : decode cX3_init 20 = .ok (.iload_n 3, 1) := by decide +kernel
theorem dX3_init_21 : decode cX3_init 21 = .ok (.putfield 21, 3) := by decide +kernel
theorem dX3_init_24 : decode cX3_init 24 = .ok (.aload_n 0, 1) := by decide +kernel
theorem dX3_init_25 : decode cX3_init 25 = .ok (.iload 4, 2) := by decide +kernel
theorem dX3_init_27 : decode cX3_init 27 = .ok (.putfield 24, 3) := by decide +kernel
theorem dX3_init_30 : decode cX3_init 30 = .ok (.return_, 1) := by decide +kernel
theorem dX3_isKnownIn_0 : decode cX3_isKnownIn 0 = .ok (.aload_n 0, 1) := by decide +kernel
theorem dX3_isKnownIn_1 : decode cX3_isKnownIn 1 = .ok (.getfield 24, 3) := by decide +kernel
theorem dX3_isKnownIn_4 : decode cX3_isKnownIn 4 = .ok (.iload_n 1, 1) := by decide +kernel
theorem dX3_isKnownIn_5 : decode cX3_isKnownIn 5 = .ok (.if_icmp .gt 23, 3) := by decide +kernel
theorem dX3_isKnownIn_8 : decode cX3_isKnownIn 8 = .ok (.aload_n 0, 1) := by decide +kernel
theorem dX3_isKnownIn_9 : decode cX3_isKnownIn 9 = .ok (.getfield 9, 3) := by decide +kernel
theorem dX3_isKnownIn_12 : decode cX3_isKnownIn 12 = .ok (.iconst (-1), 1) := by decide +kernel
theorem dX3_isKnownIn_13 : decode cX3_isKnownIn 13 = .ok (.if_icmp .eq 11, 3) := by decide +kernel
theorem dX3_isKnownIn_16 : decode cX3_isKnownIn 16 = .ok (.aload_n 0, 1) := by decide +kernel
theorem dX3_isKnownIn_17 : decode cX3_isKnownIn 17 = .ok (.getfield 9, 3) := by decide +kernel
theorem dX3_isKnownIn_20 : decode cX3_isKnownIn 20 = .ok (.iload_n 1, 1) := by decide +kernel
theorem dX3_isKnownIn_21 : decode cX3_isKnownIn 21 = .ok (.if_icmp .le 7, 3) := by decide +kernel
theorem dX3_isKnownIn_24 : decode cX3_isKnownIn 24 = .ok (.iconst 1, 1) := by decide +kernel
theorem dX3_isKnownIn_25 : decode cX3_isKnownIn 25 = .ok (.goto 4, 3) := by decide +kernel
theorem dX3_isKnownIn_28 : decode cX3_isKnownIn 28 = .ok (.iconst 0, 1) := by decide +kernel
theorem dX3_isKnownIn_29 : decode cX3_isKnownIn 29 = .ok (.ireturn, 1) := by decide +kernel
theorem dX4_init_0 : decode cX4_init 0 = .ok (.aload_n 0, 1) := by decide +kernel
theorem dX4_init_1 : decode cX4_init 1 = .ok (.invokespecial 3, 3) := by decide +kernel
theorem dX4_init_4 : decode cX4_init 4 = .ok (.aload_n 0, 1) := by decide +kernel
theorem dX4_init_5 : decode cX4_init 5 = .ok (.sipush 201, 3) := by decide +kernel
theorem dX4_init_8 : decode cX4_init 8 = .ok (.newarray .int, 2) := by decide +kernel
theorem dX4_init_10 : decode cX4_init 10 = .ok (.putfield 11, 3) := by decide +kernel
theorem dX4_init_13 : decode cX4_init 13 = .ok (.aload_n 0, 1) := by decide +kernel
theorem dX4_init_14 : decode cX4_init 14 = .ok (.sipush 201, 3) := by decide +kernel
theorem dX4_init_17 : decode cX4_init 17 = .ok (.newarray .int, 2) := by decide +kernel
theorem dX4_init_19 : decode cX4_init 19 = .ok (.putfield 15, 3) := by decide +kernel
theorem dX4_init_22 : decode cX4_init 22 = .ok (.aload_n 0, 1) := by decide +kernel
theorem dX4_init_23 : decode cX4_init 23 = .ok (.sipush 201, 3) := by decide +kernel
theorem dX4_init_26 : decode cX4_init 26 = .ok (.newarray .int, 2) := by decide +kernel
theorem dX4_init_28 : decode cX4_init 28 = .ok (.putfield 18, 3) := by decide +kernel
theorem dX4_init_31 : decode cX4_init 31 = .ok (.aload_n 0, 1) := by decide +kernel
theorem dX4_init_32 : decode cX4_init 32 = .ok (.sipush 201, 3) := by decide +kernel
theorem dX4_init_35 : decode cX4_init 35 = .ok (.newarray .int, 2) := by decide +kernel
theorem dX4_init_37 : decode cX4_init 37 = .ok (.putfield 21, 3) := by decide +kernel
theorem dX4_init_40 : decode cX4_init 40 = .ok (.aload_n 0, 1) := by decide +kernel
theorem dX4_init_41 : decode cX4_init 41 = .ok (.bipush 7, 2) := by decide +kernel
theorem dX4_init_43 : decode cX4_init 43 = .ok (.sipush 301, 3) := by decide +kernel
theorem dX4_init_46 : decode cX4_init 46 = .ok (.multianewarray 24 2, 4) := by decide +kernel
theorem dX4_init_50 : decode cX4_init 50 = .ok (.putfield 26, 3) := by decide +kernel
theorem dX4_init_53 : decode cX4_init 53 = .ok (.aload_n 0, 1) := by decide +kernel
theorem dX4_init_54 : decode cX4_init 54 = .ok (.sipush 301, 3) := by decide +kernel
theorem dX4_init_57 : decode cX4_init 57 = .ok (.newarray .int, 2) := by decide +kernel
theorem dX4_init_59 : decode cX4_init 59 = .ok (.putfield 29, 3) := by decide +kernel
theorem dX4_init_62 : decode cX4_init 62 = .ok (.aload_n 0, 1) := by decide +kernel
theorem dX4_init_63 : decode cX4_init 63 = .ok (.iconst (-1), 1) := by decide +kernel
theorem dX4_init_64 : decode cX4_init 64 = .ok (.putfield 32, 3) := by decide +kernel
theorem dX4_init_67 : decode cX4_init 67 = .ok (.aload_n 0, 1) := by decide +kernel
theorem dX4_init_68 : decode cX4_init 68 = .ok (.iconst (-1), 1) := by decide +kernel
theorem dX4_init_69 : decode cX4_init 69 = .ok (.putfield 36, 3) := by decide +kernel
theorem dX4_init_72 : decode cX4_init 72 = .ok (.return_, 1) := by decide +kernel
theorem dX4_isKind_0 : decode cX4_isKind 0 = .ok (.iload_n 0, 1) := by decide +kernel
theorem dX4_isKind_1 : decode cX4_isKind 1 = .ok (.ifCond .lt 13, 3) := by decide +kernel
theorem dX4_isKind_4 : decode cX4_isKind 4 = .ok (.iload_n 0, 1) := by decide +kernel
theorem dX4_isKind_5 : decode cX4_isKind 5 = .ok (.bipush 7, 2) := by decide +kernel
theorem dX4_isKind_7 : decode cX4_isKind 7 = .ok (.if_icmp .ge 7, 3) := by decide +kernel
theorem dX4_isKind_10 : decode cX4_isKind 10 = .ok (.iconst 1, 1) := by decide +kernel
theorem dX4_isKind_11 : decode cX4_isKind 11 = .ok (.goto 4, 3) := by decide +kernel
theorem dX4_isKind_14 : decode cX4_isKind 14 = .ok (.iconst 0, 1) := by decide +kernel
theorem dX4_isKind_15 : decode cX4_isKind 15 = .ok (.ireturn, 1) := by decide +kernel
theorem dX4_isWeek_0 : decode cX4_isWeek 0 = .ok (.iload_n 0, 1) := by decide +kernel
theorem dX4_isWeek_1 : decode cX4_isWeek 1 = .ok (.ifCond .lt 14, 3) := by decide +kernel
theorem dX4_isWeek_4 : decode cX4_isWeek 4 = .ok (.iload_n 0, 1) := by decide +kernel
theorem dX4_isWeek_5 : decode cX4_isWeek 5 = .ok (.sipush 1000, 3) := by decide +kernel
theorem dX4_isWeek_8 : decode cX4_isWeek 8 = .ok (.if_icmp .gt 7, 3) := by decide +kernel
theorem dX4_isWeek_11 : decode cX4_isWeek 11 = .ok (.iconst 1, 1) := by decide +kernel
theorem dX4_isWeek_12 : decode cX4_isWeek 12 = .ok (.goto 4, 3) := by decide +kernel
theorem dX4_isWeek_15 : decode cX4_isWeek 15 = .ok (.iconst 0, 1) := by decide +kernel
theorem dX4_isWeek_16 : decode cX4_isWeek 16 = .ok (.ireturn, 1) := by decide +kernel
theorem dX4_mayBe_0 : decode cX4_mayBe 0 = .ok (.iload_n 0, 1) := by decide +kernel
theorem dX4_mayBe_1 : decode cX4_mayBe 1 = .ok (.invokestatic 39, 3) := by decide +kernel
theorem dX4_mayBe_4 : decode cX4_mayBe 4 = .ok (.ifCond .eq 32, 3) := by decide +kernel
theorem dX4_mayBe_7 : decode cX4_mayBe 7 = .ok (.iload_n 1, 1) := by decide +kernel
theorem dX4_mayBe_8 : decode cX4_mayBe 8 = .ok (.invokestatic 43, 3) := by decide +kernel
theorem dX4_mayBe_11 : decode cX4_mayBe 11 = .ok (.ifCond .eq 25, 3) := by decide +kernel
theorem dX4_mayBe_14 : decode cX4_mayBe 14 = .ok (.iload_n 2, 1) := by decide +kernel
theorem dX4_mayBe_15 : decode cX4_mayBe 15 = .ok (.getstatic 46, 3) := by decide +kernel
theorem dX4_mayBe_18 : decode cX4_mayBe 18 = .ok (.iload_n 0, 1) := by decide +kernel
theorem dX4_mayBe_19 : decode cX4_mayBe 19 = .ok (.iaload, 1) := by decide +kernel
theorem dX4_mayBe_20 : decode cX4_mayBe 20 = .ok (.if_icmp .lt 16, 3) := by decide +kernel
theorem dX4_mayBe_23 : decode cX4_mayBe 23 = .ok (.iload_n 2, 1) := by decide +kernel
theorem dX4_mayBe_24 : decode cX4_mayBe 24 = .ok (.getstatic 49, 3) := by decide +kernel
theorem dX4_mayBe_27 : decode cX4_mayBe 27 = .ok (.iload_n 0, 1) := by decide +kernel
theorem dX4_mayBe_28 : decode cX4_mayBe 28 = .ok (.iaload, 1) := by decide +kernel
theorem dX4_mayBe_29 : decode cX4_mayBe 29 = .ok (.if_icmp .gt 7, 3) := by decide +kernel
theorem dX4_mayBe_32 : decode cX4_mayBe 32 = .ok (.iconst 1, 1) := by decide +kernel
theorem dX4_mayBe_33 : decode cX4_mayBe 33 = .ok (.goto 4, 3) := by decide +kernel
theorem dX4_mayBe_36 : decode cX4_mayBe 36 = .ok (.iconst 0, 1) := by decide +kernel
theorem dX4_mayBe_37 : decode cX4_mayBe 37 = .ok (.ireturn, 1) := by decide +kernel
theorem dX4_isFull_0 : decode cX4_isFull 0 = .ok (.aload_n 0, 1) := by decide +kernel
theorem dX4_isFull_1 : decode cX4_isFull 1 = .ok (.getfield 52, 3) := by decide +kernel
theorem dX4_isFull_4 : decode cX4_isFull 4 = .ok (.sipush 200, 3) := by decide +kernel
theorem dX4_isFull_7 : decode cX4_isFull 7 = .ok (.if_icmp .lt 7, 3) := by decide +kernel
theorem dX4_isFull_10 : decode cX4_isFull 10 = .ok (.iconst 1, 1) := by decide +kernel
theorem dX4_isFull_11 : decode cX4_isFull 11 = .ok (.goto 4, 3) := by decide +kernel
theorem dX4_isFull_14 : decode cX4_isFull 14 = .ok (.iconst 0, 1) := by decide +kernel
theorem dX4_isFull_15 : decode cX4_isFull 15 = .ok (.ireturn, 1) := by decide +kernel
theorem dX4_add_0 : decode cX4_add 0 = .ok (.aload_n 0, 1) := by decide +kernel
theorem dX4_add_1 : decode cX4_add 1 = .ok (.iload_n 1, 1) := by decide +kernel
theorem dX4_add_2 : decode cX4_add 2 = .ok (.iload_n 2, 1) := by decide +kernel
theorem dX4_add_3 : decode cX4_add 3 = .ok (.iload_n 3, 1) := by decide +kernel
theorem dX4_add_4 : decode cX4_add 4 = .ok (.iload 4, 2) := by decide +kernel
theorem dX4_add_6 : decode cX4_add 6 = .ok (.invokevirtual 55, 3) := by decide +kernel
theorem dX4_add_9 : decode cX4_add 9 = .ok (.aload_n 0, 1) := by decide +kernel
theorem dX4_add_10 : decode cX4_add 10 = .ok (.dup, 1) := by decide +kernel
theorem dX4_add_11 : decode cX4_add 11 = .ok (.getfield 52, 3) := by decide +kernel
theorem dX4_add_14 : decode cX4_add 14 = .ok (.iconst 1, 1) := by decide +kernel
theorem dX4_add_15 : decode cX4_add 15 = .ok (.iadd, 1) := by decide +kernel
theorem dX4_add_16 : decode cX4_add 16 = .ok (.putfield 52, 3) := by decide +kernel
theorem dX4_add_19 : decode cX4_add 19 = .ok (.return_, 1) := by decide +kernel
theorem dX4_inForce_0 : decode cX4_inForce 0 = .ok (.aload_n 0, 1) := by decide +kernel
theorem dX4_inForce_1 : decode cX4_inForce 1 = .ok (.iload_n 3, 1) := by decide +kernel
theorem dX4_inForce_2 : decode cX4_inForce 2 = .ok (.invokevirtual 59, 3) := by decide +kernel
theorem dX4_inForce_5 : decode cX4_inForce 5 = .ok (.istore 4, 2) := by decide +kernel
theorem dX4_inForce_7 : decode cX4_inForce 7 = .ok (.getstatic 63, 3) := by decide +kernel
theorem dX4_inForce_10 : decode cX4_inForce 10 = .ok (.iload_n 1, 1) := by decide +kernel
theorem dX4_inForce_11 : decode cX4_inForce 11 = .ok (.iaload, 1) := by decide +kernel
theorem dX4_inForce_12 : decode cX4_inForce 12 = .ok (.istore 5, 2) := by decide +kernel
theorem dX4_inForce_14 : decode cX4_inForce 14 = .ok (.iconst 0, 1) := by decide +kernel
theorem dX4_inForce_15 : decode cX4_inForce 15 = .ok (.istore 6, 2) := by decide +kernel
theorem dX4_inForce_17 : decode cX4_inForce 17 = .ok (.iconst 0, 1) := by decide +kernel
theorem dX4_inForce_18 : decode cX4_inForce 18 = .ok (.istore 7, 2) := by decide +kernel
theorem dX4_inForce_20 : decode cX4_inForce 20 = .ok (.iload 7, 2) := by decide +kernel
theorem dX4_inForce_22 : decode cX4_inForce 22 = .ok (.iload 4, 2) := by decide +kernel
theorem dX4_inForce_24 : decode cX4_inForce 24 = .ok (.if_icmp .ge 61, 3) := by decide +kernel
theorem dX4_inForce_27 : decode cX4_inForce 27 = .ok (.aload_n 0, 1) := by decide +kernel
theorem dX4_inForce_28 : decode cX4_inForce 28 = .ok (.getfield 11, 3) := by decide +kernel
theorem dX4_inForce_31 : decode cX4_inForce 31 = .ok (.iload 7, 2) := by decide +kernel
theorem dX4_inForce_33 : decode cX4_inForce 33 = .ok (.iaload, 1) := by decide +kernel
theorem dX4_inForce_34 : decode cX4_inForce 34 = .ok (.iload_n 1, 1) := by decide +kernel
theorem dX4_inForce_35 : decode cX4_inForce 35 = .ok (.if_icmp .ne 44, 3) := by decide +kernel
theorem dX4_inForce_38 : decode cX4_inForce 38 = .ok (.aload_n 0, 1) := by decide +kernel
theorem dX4_inForce_39 : decode cX4_inForce 39 = .ok (.getfield 15, 3) := by decide +kernel
theorem dX4_inForce_42 : decode cX4_inForce 42 = .ok (.iload 7, 2) := by decide +kernel
theorem dX4_inForce_44 : decode cX4_inForce 44 = .ok (.iaload, 1) := by decide +kernel
theorem dX4_inForce_45 : decode cX4_inForce 45 = .ok (.iload_n 2, 1) := by decide +kernel
theorem dX4_inForce_46 : decode cX4_inForce 46 = .ok (.if_icmp .gt 33, 3) := by decide +kernel
theorem dX4_inForce_49 : decode cX4_inForce 49 = .ok (.aload_n 0, 1) := by decide +kernel
theorem dX4_inForce_50 : decode cX4_inForce 50 = .ok (.getfield 15, 3) := by decide +kernel
theorem dX4_inForce_53 : decode cX4_inForce 53 = .ok (.iload 7, 2) := by decide +kernel
theorem dX4_inForce_55 : decode cX4_inForce 55 = .ok (.iaload, 1) := by decide +kernel
theorem dX4_inForce_56 : decode cX4_inForce 56 = .ok (.iload 6, 2) := by decide +kernel
theorem dX4_inForce_58 : decode cX4_inForce 58 = .ok (.if_icmp .lt 21, 3) := by decide +kernel
theorem dX4_inForce_61 : decode cX4_inForce 61 = .ok (.aload_n 0, 1) := by decide +kernel
theorem dX4_inForce_62 : decode cX4_inForce 62 = .ok (.getfield 15, 3) := by decide +kernel
theorem dX4_inForce_65 : decode cX4_inForce 65 = .ok (.iload 7, 2) := by decide +kernel
theorem dX4_inForce_67 : decode cX4_inForce 67 = .ok (.iaload, 1) := by decide +kernel
theorem dX4_inForce_68 : decode cX4_inForce 68 = .ok (.istore 6, 2) := by decide +kernel
theorem dX4_inForce_70 : decode cX4_inForce 70 = .ok (.aload_n 0, 1) := by decide +kernel
theorem dX4_inForce_71 : decode cX4_inForce 71 = .ok (.getfield 18, 3) := by decide +kernel
theorem dX4_inForce_74 : decode cX4_inForce 74 = .ok (.iload 7, 2) := by decide +kernel
theorem dX4_inForce_76 : decode cX4_inForce 76 = .ok (.iaload, 1) := by decide +kernel
theorem dX4_inForce_77 : decode cX4_inForce 77 = .ok (.istore 5, 2) := by decide +kernel
theorem dX4_inForce_79 : decode cX4_inForce 79 = .ok (.iinc 7 1, 3) := by decide +kernel
theorem dX4_inForce_82 : decode cX4_inForce 82 = .ok (.goto (-62), 3) := by decide +kernel
theorem dX4_inForce_85 : decode cX4_inForce 85 = .ok (.iload 5, 2) := by decide +kernel
theorem dX4_inForce_87 : decode cX4_inForce 87 = .ok (.ireturn, 1) := by decide +kernel
theorem dX4_lookFrom_0 : decode cX4_lookFrom 0 = .ok (.aload_n 0, 1) := by decide +kernel
theorem dX4_lookFrom_1 : decode cX4_lookFrom 1 = .ok (.aload_n 0, 1) := by decide +kernel
theorem dX4_lookFrom_2 : decode cX4_lookFrom 2 = .ok (.iload_n 1, 1) := by decide +kernel
theorem dX4_lookFrom_3 : decode cX4_lookFrom 3 = .ok (.invokevirtual 59, 3) := by decide +kernel
theorem dX4_lookFrom_6 : decode cX4_lookFrom 6 = .ok (.iload_n 2, 1) := by decide +kernel
theorem dX4_lookFrom_7 : decode cX4_lookFrom 7 = .ok (.invokevirtual 66, 3) := by decide +kernel
theorem dX4_lookFrom_10 : decode cX4_lookFrom 10 = .ok (.return_, 1) := by decide +kernel
theorem dX4_suppose_0 : decode cX4_suppose 0 = .ok (.aload_n 0, 1) := by decide +kernel
theorem dX4_suppose_1 : decode cX4_suppose 1 = .ok (.iload_n 1, 1) := by decide +kernel
theorem dX4_suppose_2 : decode cX4_suppose 2 = .ok (.iload_n 2, 1) := by decide +kernel
theorem dX4_suppose_3 : decode cX4_suppose 3 = .ok (.iload_n 3, 1) := by decide +kernel
theorem dX4_suppose_4 : decode cX4_suppose 4 = .ok (.iload 4, 2) := by decide +kernel
theorem dX4_suppose_6 : decode cX4_suppose 6 = .ok (.invokevirtual 55, 3) := by decide +kernel
theorem dX4_suppose_9 : decode cX4_suppose 9 = .ok (.aload_n 0, 1) := by decide +kernel
theorem dX4_suppose_10 : decode cX4_suppose 10 = .ok (.aload_n 0, 1) := by decide +kernel
theorem dX4_suppose_11 : decode cX4_suppose 11 = .ok (.getfield 52, 3) := by decide +kernel
theorem dX4_suppose_14 : decode cX4_suppose 14 = .ok (.iconst 1, 1) := by decide +kernel
theorem dX4_suppose_15 : decode cX4_suppose 15 = .ok (.iadd, 1) := by decide +kernel
theorem dX4_suppose_16 : decode cX4_suppose 16 = .ok (.iload 4, 2) := by decide +kernel
theorem dX4_suppose_18 : decode cX4_suppose 18 = .ok (.invokevirtual 66, 3) := by decide +kernel
theorem dX4_suppose_21 : decode cX4_suppose 21 = .ok (.return_, 1) := by decide +kernel
theorem dX4_forgetSupposed_0 : decode cX4_forgetSupposed 0 = .ok (.aload_n 0, 1) := by decide +kernel
theorem dX4_forgetSupposed_1 : decode cX4_forgetSupposed 1 = .ok (.iconst (-1), 1) := by decide +kernel
theorem dX4_forgetSupposed_2 : decode cX4_forgetSupposed 2 = .ok (.putfield 32, 3) := by decide +kernel
theorem dX4_forgetSupposed_5 : decode cX4_forgetSupposed 5 = .ok (.return_, 1) := by decide +kernel
theorem dX4_write_0 : decode cX4_write 0 = .ok (.aload_n 0, 1) := by decide +kernel
theorem dX4_write_1 : decode cX4_write 1 = .ok (.getfield 11, 3) := by decide +kernel
theorem dX4_write_4 : decode cX4_write 4 = .ok (.aload_n 0, 1) := by decide +kernel
theorem dX4_write_5 : decode cX4_write 5 = .ok (.getfield 52, 3) := by decide +kernel
theorem dX4_write_8 : decode cX4_write 8 = .ok (.iload_n 1, 1) := by decide +kernel
theorem dX4_write_9 : decode cX4_write 9 = .ok (.iastore, 1) := by decide +kernel
theorem dX4_write_10 : decode cX4_write 10 = .ok (.aload_n 0, 1) := by decide +kernel
theorem dX4_write_11 : decode cX4_write 11 = .ok (.getfield 15, 3) := by decide +kernel
theorem dX4_write_14 : decode cX4_write 14 = .ok (.aload_n 0, 1) := by decide +kernel
theorem dX4_write_15 : decode cX4_write 15 = .ok (.getfield 52, 3) := by decide +kernel
theorem dX4_write_18 : decode cX4_write 18 = .ok (.iload_n 2, 1) := by decide +kernel
theorem dX4_write_19 : decode cX4_write 19 = .ok (.iastore, 1) := by decide +kernel
theorem dX4_write_20 : decode cX4_write 20 = .ok (.aload_n 0, 1) := by decide +kernel
theorem dX4_write_21 : decode cX4_write 21 = .ok (.getfield 18, 3) := by decide +kernel
theorem dX4_write_24 : decode cX4_write 24 = .ok (.aload_n 0, 1) := by decide +kernel
theorem dX4_write_25 : decode cX4_write 25 = .ok (.getfield 52, 3) := by decide +kernel
theorem dX4_write_28 : decode cX4_write 28 = .ok (.iload_n 3, 1) := by decide +kernel
theorem dX4_write_29 : decode cX4_write 29 = .ok (.iastore, 1) := by decide +kernel
theorem dX4_write_30 : decode cX4_write 30 = .ok (.aload_n 0, 1) := by decide +kernel
theorem dX4_write_31 : decode cX4_write 31 = .ok (.getfield 21, 3) := by decide +kernel
theorem dX4_write_34 : decode cX4_write 34 = .ok (.aload_n 0, 1) := by decide +kernel
theorem dX4_write_35 : decode cX4_write 35 = .ok (.getfield 52, 3) := by decide +kernel
theorem dX4_write_38 : decode cX4_write 38 = .ok (.iload 4, 2) := by decide +kernel
theorem dX4_write_40 : decode cX4_write 40 = .ok (.iastore, 1) := by decide +kernel
theorem dX4_write_41 : decode cX4_write 41 = .ok (.return_, 1) := by decide +kernel
theorem dX4_knownIn_0 : decode cX4_knownIn 0 = .ok (.aload_n 0, 1) := by decide +kernel
theorem dX4_knownIn_1 : decode cX4_knownIn 1 = .ok (.getfield 52, 3) := by decide +kernel
theorem dX4_knownIn_4 : decode cX4_knownIn 4 = .ok (.istore_n 2, 1) := by decide +kernel
theorem dX4_knownIn_5 : decode cX4_knownIn 5 = .ok (.iload_n 2, 1) := by decide +kernel
theorem dX4_knownIn_6 : decode cX4_knownIn 6 = .ok (.ifCond .le 21, 3) := by decide +kernel
theorem dX4_knownIn_9 : decode cX4_knownIn 9 = .ok (.aload_n 0, 1) := by decide +kernel
theorem dX4_knownIn_10 : decode cX4_knownIn 10 = .ok (.getfield 21, 3) := by decide +kernel
theorem dX4_knownIn_13 : decode cX4_knownIn 13 = .ok (.iload_n 2, 1) := by decide +kernel
theorem dX4_knownIn_14 : decode cX4_knownIn 14 = .ok (.iconst 1, 1) := by decide +kernel
theorem dX4_knownIn_15 : decode cX4_knownIn 15 = .ok (.isub, 1) := by decide +kernel
theorem dX4_knownIn_16 : decode cX4_knownIn 16 = .ok (.iaload, 1) := by decide +kernel
theorem dX4_knownIn_17 : decode cX4_knownIn 17 = .ok (.iload_n 1, 1) := by decide +kernel
theorem dX4_knownIn_18 : decode cX4_knownIn 18 = .ok (.if_icmp .le 9, 3) := by decide +kernel
theorem dX4_knownIn_21 : decode cX4_knownIn 21 = .ok (.iinc 2 (-1), 3) := by decide +kernel
theorem dX4_knownIn_24 : decode cX4_knownIn 24 = .ok (.goto (-19), 3) := by decide +kernel
theorem dX4_knownIn_27 : decode cX4_knownIn 27 = .ok (.iload_n 2, 1) := by decide +kernel
theorem dX4_knownIn_28 : decode cX4_knownIn 28 = .ok (.ireturn, 1) := by decide +kernel
theorem dX4_look_0 : decode cX4_look 0 = .ok (.iload_n 1, 1) := by decide +kernel
theorem dX4_look_1 : decode cX4_look 1 = .ok (.aload_n 0, 1) := by decide +kernel
theorem dX4_look_2 : decode cX4_look 2 = .ok (.getfield 32, 3) := by decide +kernel
theorem dX4_look_5 : decode cX4_look 5 = .ok (.if_icmp .ne 12, 3) := by decide +kernel
theorem dX4_look_8 : decode cX4_look 8 = .ok (.iload_n 2, 1) := by decide +kernel
theorem dX4_look_9 : decode cX4_look 9 = .ok (.aload_n 0, 1) := by decide +kernel
theorem dX4_look_10 : decode cX4_look 10 = .ok (.getfield 36, 3) := by decide +kernel
theorem dX4_look_13 : decode cX4_look 13 = .ok (.if_icmp .gt 4, 3) := by decide +kernel
theorem dX4_look_16 : decode cX4_look 16 = .ok (.return_, 1) := by decide +kernel
theorem dX4_look_17 : decode cX4_look 17 = .ok (.iconst 0, 1) := by decide +kernel
theorem dX4_look_18 : decode cX4_look 18 = .ok (.istore_n 3, 1) := by decide +kernel
theorem dX4_look_19 : decode cX4_look 19 = .ok (.iload_n 3, 1) := by decide +kernel
theorem dX4_look_20 : decode cX4_look 20 = .ok (.bipush 7, 2) := by decide +kernel
theorem dX4_look_22 : decode cX4_look 22 = .ok (.if_icmp .ge 34, 3) := by decide +kernel
theorem dX4_look_25 : decode cX4_look 25 = .ok (.iconst 0, 1) := by decide +kernel
theorem dX4_look_26 : decode cX4_look 26 = .ok (.istore 4, 2) := by decide +kernel
theorem dX4_look_28 : decode cX4_look 28 = .ok (.iload 4, 2) := by decide +kernel
theorem dX4_look_30 : decode cX4_look 30 = .ok (.iload_n 2, 1) := by decide +kernel
theorem dX4_look_31 : decode cX4_look 31 = .ok (.if_icmp .gt 19, 3) := by decide +kernel
theorem dX4_look_34 : decode cX4_look 34 = .ok (.aload_n 0, 1) := by decide +kernel
theorem dX4_look_35 : decode cX4_look 35 = .ok (.getfield 26, 3) := by decide +kernel
theorem dX4_look_38 : decode cX4_look 38 = .ok (.iload_n 3, 1) := by decide +kernel
theorem dX4_look_39 : decode cX4_look 39 = .ok (.aaload, 1) := by decide +kernel
theorem dX4_look_40 : decode cX4_look 40 = .ok (.iload 4, 2) := by decide +kernel
theorem dX4_look_42 : decode cX4_look 42 = .ok (.iconst (-1), 1) := by decide +kernel
theorem dX4_look_43 : decode cX4_look 43 = .ok (.iastore, 1) := by decide +kernel
theorem dX4_look_44 : decode cX4_look 44 = .ok (.iinc 4 1, 3) := by decide +kernel
theorem dX4_look_47 : decode cX4_look 47 = .ok (.goto (-19), 3) := by decide +kernel
theorem dX4_look_50 : decode cX4_look 50 = .ok (.iinc 3 1, 3) := by decide +kernel
theorem dX4_look_53 : decode cX4_look 53 = .ok (.goto (-34), 3) := by decide +kernel
theorem dX4_look_56 : decode cX4_look 56 = .ok (.iconst 0, 1) := by decide +kernel
theorem dX4_look_57 : decode cX4_look 57 = .ok (.istore_n 3, 1) := by decide +kernel
theorem dX4_look_58 : decode cX4_look 58 = .ok (.iload_n 3, 1) := by decide +kernel
theorem dX4_look_59 : decode cX4_look 59 = .ok (.iload_n 1, 1) := by decide +kernel
theorem dX4_look_60 : decode cX4_look 60 = .ok (.if_icmp .ge 43, 3) := by decide +kernel
theorem dX4_look_63 : decode cX4_look 63 = .ok (.aload_n 0, 1) := by decide +kernel
theorem dX4_look_64 : decode cX4_look 64 = .ok (.getfield 15, 3) := by decide +kernel
theorem dX4_look_67 : decode cX4_look 67 = .ok (.iload_n 3, 1) := by decide +kernel
theorem dX4_look_68 : decode cX4_look 68 = .ok (.iaload, 1) := by decide +kernel
theorem dX4_look_69 : decode cX4_look 69 = .ok (.iload_n 2, 1) := by decide +kernel
theorem dX4_look_70 : decode cX4_look 70 = .ok (.if_icmp .gt 27, 3) := by decide +kernel
theorem dX4_look_73 : decode cX4_look 73 = .ok (.aload_n 0, 1) := by decide +kernel
theorem dX4_look_74 : decode cX4_look 74 = .ok (.getfield 26, 3) := by decide +kernel
theorem dX4_look_77 : decode cX4_look 77 = .ok (.aload_n 0, 1) := by decide +kernel
theorem dX4_look_78 : decode cX4_look 78 = .ok (.getfield 11, 3) := by decide +kernel
theorem dX4_look_81 : decode cX4_look 81 = .ok (.iload_n 3, 1) := by decide +kernel
theorem dX4_look_82 : decode cX4_look 82 = .ok (.iaload, 1) := by decide +kernel
theorem dX4_look_83 : decode cX4_look 83 = .ok (.aaload, 1) := by decide +kernel
theorem dX4_look_84 : decode cX4_look 84 = .ok (.aload_n 0, 1) := by decide +kernel
theorem dX4_look_85 : decode cX4_look 85 = .ok (.getfield 15, 3) := by decide +kernel
theorem dX4_look_88 : decode cX4_look 88 = .ok (.iload_n 3, 1) := by decide +kernel
theorem dX4_look_89 : decode cX4_look 89 = .ok (.iaload, 1) := by decide +kernel
theorem dX4_look_90 : decode cX4_look 90 = .ok (.aload_n 0, 1) := by decide +kernel
theorem dX4_look_91 : decode cX4_look 91 = .ok (.getfield 18, 3) := by decide +kernel
theorem dX4_look_94 : decode cX4_look 94 = .ok (.iload_n 3, 1) := by decide +kernel
theorem dX4_look_95 : decode cX4_look 95 = .ok (.iaload, 1) := by decide +kernel
theorem dX4_look_96 : decode cX4_look 96 = .ok (.iastore, 1) := by decide +kernel
theorem dX4_look_97 : decode cX4_look 97 = .ok (.iinc 3 1, 3) := by decide +kernel
theorem dX4_look_100 : decode cX4_look 100 = .ok (.goto (-42), 3) := by decide +kernel
theorem dX4_look_103 : decode cX4_look 103 = .ok (.iconst 0, 1) := by decide +kernel
theorem dX4_look_104 : decode cX4_look 104 = .ok (.istore_n 3, 1) := by decide +kernel
theorem dX4_look_105 : decode cX4_look 105 = .ok (.iload_n 3, 1) := by decide +kernel
theorem dX4_look_106 : decode cX4_look 106 = .ok (.bipush 7, 2) := by decide +kernel
theorem dX4_look_108 : decode cX4_look 108 = .ok (.if_icmp .ge 24, 3) := by decide +kernel
theorem dX4_look_111 : decode cX4_look 111 = .ok (.aload_n 0, 1) := by decide +kernel
theorem dX4_look_112 : decode cX4_look 112 = .ok (.getfield 26, 3) := by decide +kernel
theorem dX4_look_115 : decode cX4_look 115 = .ok (.iload_n 3, 1) := by decide +kernel
theorem dX4_look_116 : decode cX4_look 116 = .ok (.aaload, 1) := by decide +kernel
theorem dX4_look_117 : decode cX4_look 117 = .ok (.getstatic 63, 3) := by decide +kernel
theorem dX4_look_120 : decode cX4_look 120 = .ok (.iload_n 3, 1) := by decide +kernel
theorem dX4_look_121 : decode cX4_look 121 = .ok (.iaload, 1) := by decide +kernel
theorem dX4_look_122 : decode cX4_look 122 = .ok (.iload_n 2, 1) := by decide +kernel
theorem dX4_look_123 : decode cX4_look 123 = .ok (.invokestatic 70, 3) := by decide +kernel
theorem dX4_look_126 : decode cX4_look 126 = .ok (.iinc 3 1, 3) := by decide +kernel
theorem dX4_look_129 : decode cX4_look 129 = .ok (.goto (-24), 3) := by decide +kernel
theorem dX4_look_132 : decode cX4_look 132 = .ok (.iconst 0, 1) := by decide +kernel
theorem dX4_look_133 : decode cX4_look 133 = .ok (.istore_n 3, 1) := by decide +kernel
theorem dX4_look_134 : decode cX4_look 134 = .ok (.iload_n 3, 1) := by decide +kernel
theorem dX4_look_135 : decode cX4_look 135 = .ok (.iload_n 2, 1) := by decide +kernel
theorem dX4_look_136 : decode cX4_look 136 = .ok (.if_icmp .ge 32, 3) := by decide +kernel
theorem dX4_look_139 : decode cX4_look 139 = .ok (.aload_n 0, 1) := by decide +kernel
theorem dX4_look_140 : decode cX4_look 140 = .ok (.getfield 29, 3) := by decide +kernel
theorem dX4_look_143 : decode cX4_look 143 = .ok (.iload_n 3, 1) := by decide +kernel
theorem dX4_look_144 : decode cX4_look 144 = .ok (.iconst 1, 1) := by decide +kernel
theorem dX4_look_145 : decode cX4_look 145 = .ok (.iadd, 1) := by decide +kernel
theorem dX4_look_146 : decode cX4_look 146 = .ok (.aload_n 0, 1) := by decide +kernel
theorem dX4_look_147 : decode cX4_look 147 = .ok (.getfield 29, 3) := by decide +kernel
theorem dX4_look_150 : decode cX4_look 150 = .ok (.iload_n 3, 1) := by decide +kernel
theorem dX4_look_151 : decode cX4_look 151 = .ok (.iaload, 1) := by decide +kernel
theorem dX4_look_152 : decode cX4_look 152 = .ok (.aload_n 0, 1) := by decide +kernel
theorem dX4_look_153 : decode cX4_look 153 = .ok (.getfield 26, 3) := by decide +kernel
theorem dX4_look_156 : decode cX4_look 156 = .ok (.iconst 0, 1) := by decide +kernel
theorem dX4_look_157 : decode cX4_look 157 = .ok (.aaload, 1) := by decide +kernel
theorem dX4_look_158 : decode cX4_look 158 = .ok (.iload_n 3, 1) := by decide +kernel
theorem dX4_look_159 : decode cX4_look 159 = .ok (.iaload, 1) := by decide +kernel
theorem dX4_look_160 : decode cX4_look 160 = .ok (.iadd, 1) := by decide +kernel
theorem dX4_look_161 : decode cX4_look 161 = .ok (.iastore, 1) := by decide +kernel
theorem dX4_look_162 : decode cX4_look 162 = .ok (.iinc 3 1, 3) := by decide +kernel
theorem dX4_look_165 : decode cX4_look 165 = .ok (.goto (-31), 3) := by decide +kernel
theorem dX4_look_168 : decode cX4_look 168 = .ok (.aload_n 0, 1) := by decide +kernel
theorem dX4_look_169 : decode cX4_look 169 = .ok (.iload_n 1, 1) := by decide +kernel
theorem dX4_look_170 : decode cX4_look 170 = .ok (.putfield 32, 3) := by decide +kernel
theorem dX4_look_173 : decode cX4_look 173 = .ok (.aload_n 0, 1) := by decide +kernel
theorem dX4_look_174 : decode cX4_look 174 = .ok (.iload_n 2, 1) := by decide +kernel
theorem dX4_look_175 : decode cX4_look 175 = .ok (.putfield 36, 3) := by decide +kernel
theorem dX4_look_178 : decode cX4_look 178 = .ok (.return_, 1) := by decide +kernel
theorem dX4_handOn_0 : decode cX4_handOn 0 = .ok (.iload_n 1, 1) := by decide +kernel
theorem dX4_handOn_1 : decode cX4_handOn 1 = .ok (.istore_n 3, 1) := by decide +kernel
theorem dX4_handOn_2 : decode cX4_handOn 2 = .ok (.iconst 0, 1) := by decide +kernel
theorem dX4_handOn_3 : decode cX4_handOn 3 = .ok (.istore 4, 2) := by decide +kernel
theorem dX4_handOn_5 : decode cX4_handOn 5 = .ok (.iload 4, 2) := by decide +kernel
theorem dX4_handOn_7 : decode cX4_handOn 7 = .ok (.iload_n 2, 1) := by decide +kernel
theorem dX4_handOn_8 : decode cX4_handOn 8 = .ok (.if_icmp .gt 30, 3) := by decide +kernel
theorem dX4_handOn_11 : decode cX4_handOn 11 = .ok (.aload_n 0, 1) := by decide +kernel
theorem dX4_handOn_12 : decode cX4_handOn 12 = .ok (.iload 4, 2) := by decide +kernel
theorem dX4_handOn_14 : decode cX4_handOn 14 = .ok (.iaload, 1) := by decide +kernel
theorem dX4_handOn_15 : decode cX4_handOn 15 = .ok (.iconst (-1), 1) := by decide +kernel
theorem dX4_handOn_16 : decode cX4_handOn 16 = .ok (.if_icmp .ne 11, 3) := by decide +kernel
theorem dX4_handOn_19 : decode cX4_handOn 19 = .ok (.aload_n 0, 1) := by decide +kernel
theorem dX4_handOn_20 : decode cX4_handOn 20 = .ok (.iload 4, 2) := by decide +kernel
theorem dX4_handOn_22 : decode cX4_handOn 22 = .ok (.iload_n 3, 1) := by decide +kernel
theorem dX4_handOn_23 : decode cX4_handOn 23 = .ok (.iastore, 1) := by decide +kernel
theorem dX4_handOn_24 : decode cX4_handOn 24 = .ok (.goto 8, 3) := by decide +kernel
theorem dX4_handOn_27 : decode cX4_handOn 27 = .ok (.aload_n 0, 1) := by decide +kernel
theorem dX4_handOn_28 : decode cX4_handOn 28 = .ok (.iload 4, 2) := by decide +kernel
theorem dX4_handOn_30 : decode cX4_handOn 30 = .ok (.iaload, 1) := by decide +kernel
theorem dX4_handOn_31 : decode cX4_handOn 31 = .ok (.istore_n 3, 1) := by decide +kernel
theorem dX4_handOn_32 : decode cX4_handOn 32 = .ok (.iinc 4 1, 3) := by decide +kernel
theorem dX4_handOn_35 : decode cX4_handOn 35 = .ok (.goto (-30), 3) := by decide +kernel
theorem dX4_handOn_38 : decode cX4_handOn 38 = .ok (.return_, 1) := by decide +kernel
theorem dX5_init_0 : decode cX5_init 0 = .ok (.aload_n 0, 1) := by decide +kernel
theorem dX5_init_1 : decode cX5_init 1 = .ok (.invokespecial 1, 3) := by decide +kernel
theorem dX5_init_4 : decode cX5_init 4 = .ok (.aload_n 0, 1) := by decide +kernel
theorem dX5_init_5 : decode cX5_init 5 = .ok (.bipush 100, 2) := by decide +kernel
theorem dX5_init_7 : decode cX5_init 7 = .ok (.newarray .int, 2) := by decide +kernel
theorem dX5_init_9 : decode cX5_init 9 = .ok (.putfield 9, 3) := by decide +kernel
theorem dX5_init_12 : decode cX5_init 12 = .ok (.aload_n 0, 1) := by decide +kernel
theorem dX5_init_13 : decode cX5_init 13 = .ok (.bipush 100, 2) := by decide +kernel
theorem dX5_init_15 : decode cX5_init 15 = .ok (.newarray .int, 2) := by decide +kernel
theorem dX5_init_17 : decode cX5_init 17 = .ok (.putfield 13, 3) := by decide +kernel
theorem dX5_init_20 : decode cX5_init 20 = .ok (.iconst 0, 1) := by decide +kernel
theorem dX5_init_21 : decode cX5_init 21 = .ok (.istore_n 1, 1) := by decide +kernel
theorem dX5_init_22 : decode cX5_init 22 = .ok (.iload_n 1, 1) := by decide +kernel
theorem dX5_init_23 : decode cX5_init 23 = .ok (.bipush 100, 2) := by decide +kernel
theorem dX5_init_25 : decode cX5_init 25 = .ok (.if_icmp .ge 32, 3) := by decide +kernel
theorem dX5_init_28 : decode cX5_init 28 = .ok (.aload_n 0, 1) := by decide +kernel
theorem dX5_init_29 : decode cX5_init 29 = .ok (.getfield 9, 3) := by decide +kernel
theorem dX5_init_32 : decode cX5_init 32 = .ok (.iload_n 1, 1) := by decide +kernel
theorem dX5_init_33 : decode cX5_init 33 = .ok (.sipush 1000, 3) := by decide +kernel
theorem dX5_init_36 : decode cX5_init 36 = .ok (.bipush 10, 2) := by decide +kernel
theorem dX5_init_38 : decode cX5_init 38 = .ok (.iload_n 1, 1) := by decide +kernel
theorem dX5_init_39 : decode cX5_init 39 = .ok (.imul, 1) := by decide +kernel
theorem dX5_init_40 : decode cX5_init 40 = .ok (.isub, 1) := by decide +kernel
theorem dX5_init_41 : decode cX5_init 41 = .ok (.iastore, 1) := by decide +kernel
theorem dX5_init_42 : decode cX5_init 42 = .ok (.aload_n 0, 1) := by decide +kernel
theorem dX5_init_43 : decode cX5_init 43 = .ok (.getfield 13, 3) := by decide +kernel
theorem dX5_init_46 : decode cX5_init 46 = .ok (.iload_n 1, 1) := by decide +kernel
theorem dX5_init_47 : decode cX5_init 47 = .ok (.iload_n 1, 1) := by decide +kernel
theorem dX5_init_48 : decode cX5_init 48 = .ok (.iconst 4, 1) := by decide +kernel
theorem dX5_init_49 : decode cX5_init 49 = .ok (.idiv, 1) := by decide +kernel
theorem dX5_init_50 : decode cX5_init 50 = .ok (.iastore, 1) := by decide +kernel
theorem dX5_init_51 : decode cX5_init 51 = .ok (.iinc 1 1, 3) := by decide +kernel
theorem dX5_init_54 : decode cX5_init 54 = .ok (.goto (-32), 3) := by decide +kernel
theorem dX5_init_57 : decode cX5_init 57 = .ok (.return_, 1) := by decide +kernel
theorem dX5_change_0 : decode cX5_change 0 = .ok (.iload_n 1, 1) := by decide +kernel
theorem dX5_change_1 : decode cX5_change 1 = .ok (.ifCond .lt 31, 3) := by decide +kernel
theorem dX5_change_4 : decode cX5_change 4 = .ok (.iload_n 1, 1) := by decide +kernel
theorem dX5_change_5 : decode cX5_change 5 = .ok (.bipush 100, 2) := by decide +kernel
theorem dX5_change_7 : decode cX5_change 7 = .ok (.if_icmp .ge 25, 3) := by decide +kernel
theorem dX5_change_10 : decode cX5_change 10 = .ok (.iload_n 2, 1) := by decide +kernel
theorem dX5_change_11 : decode cX5_change 11 = .ok (.ifCond .lt 21, 3) := by decide +kernel
theorem dX5_change_14 : decode cX5_change 14 = .ok (.iload_n 2, 1) := by decide +kernel
theorem dX5_change_15 : decode cX5_change 15 = .ok (.sipush 1000, 3) := by decide +kernel
theorem dX5_change_18 : decode cX5_change 18 = .ok (.if_icmp .gt 14, 3) := by decide +kernel
theorem dX5_change_21 : decode cX5_change 21 = .ok (.iload_n 3, 1) := by decide +kernel
theorem dX5_change_22 : decode cX5_change 22 = .ok (.ifCond .lt 10, 3) := by decide +kernel
theorem dX5_change_25 : decode cX5_change 25 = .ok (.iload_n 3, 1) := by decide +kernel
theorem dX5_change_26 : decode cX5_change 26 = .ok (.sipush 365, 3) := by decide +kernel
theorem dX5_change_29 : decode cX5_change 29 = .ok (.if_icmp .le 5, 3) := by decide +kernel
theorem dX5_change_32 : decode cX5_change 32 = .ok (.iconst 0, 1) := by decide +kernel
theorem dX5_change_33 : decode cX5_change 33 = .ok (.ireturn, 1) := by decide +kernel
theorem dX5_change_34 : decode cX5_change 34 = .ok (.aload_n 0, 1) := by decide +kernel
theorem dX5_change_35 : decode cX5_change 35 = .ok (.getfield 9, 3) := by decide +kernel
theorem dX5_change_38 : decode cX5_change 38 = .ok (.iload_n 1, 1) := by decide +kernel
theorem dX5_change_39 : decode cX5_change 39 = .ok (.iload_n 2, 1) := by decide +kernel
theorem dX5_change_40 : decode cX5_change 40 = .ok (.iastore, 1) := by decide +kernel
theorem dX5_change_41 : decode cX5_change 41 = .ok (.aload_n 0, 1) := by decide +kernel
theorem dX5_change_42 : decode cX5_change 42 = .ok (.getfield 13, 3) := by decide +kernel
theorem dX5_change_45 : decode cX5_change 45 = .ok (.iload_n 1, 1) := by decide +kernel
theorem dX5_change_46 : decode cX5_change 46 = .ok (.iload_n 3, 1) := by decide +kernel
theorem dX5_change_47 : decode cX5_change 47 = .ok (.iastore, 1) := by decide +kernel
theorem dX5_change_48 : decode cX5_change 48 = .ok (.iconst 1, 1) := by decide +kernel
theorem dX5_change_49 : decode cX5_change 49 = .ok (.ireturn, 1) := by decide +kernel
theorem dX5_livingAt_0 : decode cX5_livingAt 0 = .ok (.iload_n 1, 1) := by decide +kernel
theorem dX5_livingAt_1 : decode cX5_livingAt 1 = .ok (.ifCond .lt 18, 3) := by decide +kernel
theorem dX5_livingAt_4 : decode cX5_livingAt 4 = .ok (.iload_n 1, 1) := by decide +kernel
theorem dX5_livingAt_5 : decode cX5_livingAt 5 = .ok (.bipush 100, 2) := by decide +kernel
theorem dX5_livingAt_7 : decode cX5_livingAt 7 = .ok (.if_icmp .ge 12, 3) := by decide +kernel
theorem dX5_livingAt_10 : decode cX5_livingAt 10 = .ok (.aload_n 0, 1) := by decide +kernel
theorem dX5_livingAt_11 : decode cX5_livingAt 11 = .ok (.getfield 9, 3) := by decide +kernel
theorem dX5_livingAt_14 : decode cX5_livingAt 14 = .ok (.iload_n 1, 1) := by decide +kernel
theorem dX5_livingAt_15 : decode cX5_livingAt 15 = .ok (.iaload, 1) := by decide +kernel
theorem dX5_livingAt_16 : decode cX5_livingAt 16 = .ok (.goto 4, 3) := by decide +kernel
theorem dX5_livingAt_19 : decode cX5_livingAt 19 = .ok (.iconst 0, 1) := by decide +kernel
theorem dX5_livingAt_20 : decode cX5_livingAt 20 = .ok (.ireturn, 1) := by decide +kernel
theorem dX5_sumOver_0 : decode cX5_sumOver 0 = .ok (.lconst 0, 1) := by decide +kernel
theorem dX5_sumOver_1 : decode cX5_sumOver 1 = .ok (.lstore 5, 2) := by decide +kernel
theorem dX5_sumOver_3 : decode cX5_sumOver 3 = .ok (.iload_n 1, 1) := by decide +kernel
theorem dX5_sumOver_4 : decode cX5_sumOver 4 = .ok (.iload_n 2, 1) := by decide +kernel
theorem dX5_sumOver_5 : decode cX5_sumOver 5 = .ok (.iadd, 1) := by decide +kernel
theorem dX5_sumOver_6 : decode cX5_sumOver 6 = .ok (.bipush 100, 2) := by decide +kernel
theorem dX5_sumOver_8 : decode cX5_sumOver 8 = .ok (.invokestatic 16, 3) := by decide +kernel
theorem dX5_sumOver_11 : decode cX5_sumOver 11 = .ok (.istore 7, 2) := by decide +kernel
theorem dX5_sumOver_13 : decode cX5_sumOver 13 = .ok (.iload_n 1, 1) := by decide +kernel
theorem dX5_sumOver_14 : decode cX5_sumOver 14 = .ok (.iconst 0, 1) := by decide +kernel
theorem dX5_sumOver_15 : decode cX5_sumOver 15 = .ok (.invokestatic 22, 3) := by decide +kernel
theorem dX5_sumOver_18 : decode cX5_sumOver 18 = .ok (.istore 8, 2) := by decide +kernel
theorem dX5_sumOver_20 : decode cX5_sumOver 20 = .ok (.iload 8, 2) := by decide +kernel
theorem dX5_sumOver_22 : decode cX5_sumOver 22 = .ok (.iload 7, 2) := by decide +kernel
theorem dX5_sumOver_24 : decode cX5_sumOver 24 = .ok (.if_icmp .ge 36, 3) := by decide +kernel
theorem dX5_sumOver_27 : decode cX5_sumOver 27 = .ok (.lload 5, 2) := by decide +kernel
theorem dX5_sumOver_29 : decode cX5_sumOver 29 = .ok (.aload_n 0, 1) := by decide +kernel
theorem dX5_sumOver_30 : decode cX5_sumOver 30 = .ok (.getfield 9, 3) := by decide +kernel
theorem dX5_sumOver_33 : decode cX5_sumOver 33 = .ok (.iload 8, 2) := by decide +kernel
theorem dX5_sumOver_35 : decode cX5_sumOver 35 = .ok (.iaload, 1) := by decide +kernel
theorem dX5_sumOver_36 : decode cX5_sumOver 36 = .ok (.i2l, 1) := by decide +kernel
theorem dX5_sumOver_37 : decode cX5_sumOver 37 = .ok (.aload_n 0, 1) := by decide +kernel
theorem dX5_sumOver_38 : decode cX5_sumOver 38 = .ok (.getfield 13, 3) := by decide +kernel
theorem dX5_sumOver_41 : decode cX5_sumOver 41 = .ok (.iload 8, 2) := by decide +kernel
theorem dX5_sumOver_43 : decode cX5_sumOver 43 = .ok (.iaload, 1) := by decide +kernel
theorem dX5_sumOver_44 : decode cX5_sumOver 44 = .ok (.iload_n 3, 1) := by decide +kernel
theorem dX5_sumOver_45 : decode cX5_sumOver 45 = .ok (.imul, 1) := by decide +kernel
theorem dX5_sumOver_46 : decode cX5_sumOver 46 = .ok (.iload 4, 2) := by decide +kernel
theorem dX5_sumOver_48 : decode cX5_sumOver 48 = .ok (.isub, 1) := by decide +kernel
theorem dX5_sumOver_49 : decode cX5_sumOver 49 = .ok (.i2l, 1) := by decide +kernel
theorem dX5_sumOver_50 : decode cX5_sumOver 50 = .ok (.lmul, 1) := by decide +kernel
theorem dX5_sumOver_51 : decode cX5_sumOver 51 = .ok (.ladd, 1) := by decide +kernel
theorem dX5_sumOver_52 : decode cX5_sumOver 52 = .ok (.lstore 5, 2) := by decide +kernel
theorem dX5_sumOver_54 : decode cX5_sumOver 54 = .ok (.iinc 8 1, 3) := by decide +kernel
theorem dX5_sumOver_57 : decode cX5_sumOver 57 = .ok (.goto (-37), 3) := by decide +kernel
theorem dX5_sumOver_60 : decode cX5_sumOver 60 = .ok (.lload 5, 2) := by decide +kernel
theorem dX5_sumOver_62 : decode cX5_sumOver 62 = .ok (.lreturn, 1) := by decide +kernel
theorem dJ9_abs_067f4_0 : decode cJ9_abs_067f4 0 = .ok (.lload_n 0, 1) := by decide +kernel
theorem dJ9_abs_067f4_1 : decode cJ9_abs_067f4 1 = .ok (.lconst 0, 1) := by decide +kernel
theorem dJ9_abs_067f4_2 : decode cJ9_abs_067f4 2 = .ok (.lcmp, 1) := by decide +kernel
theorem dJ9_abs_067f4_3 : decode cJ9_abs_067f4 3 = .ok (.ifCond .ge 8, 3) := by decide +kernel
theorem dJ9_abs_067f4_6 : decode cJ9_abs_067f4 6 = .ok (.lload_n 0, 1) := by decide +kernel
theorem dJ9_abs_067f4_7 : decode cJ9_abs_067f4 7 = .ok (.lneg, 1) := by decide +kernel
theorem dJ9_abs_067f4_8 : decode cJ9_abs_067f4 8 = .ok (.goto 4, 3) := by decide +kernel
theorem dJ9_abs_067f4_11 : decode cJ9_abs_067f4 11 = .ok (.lload_n 0, 1) := by decide +kernel
theorem dJ9_abs_067f4_12 : decode cJ9_abs_067f4 12 = .ok (.lreturn, 1) := by decide +kernel
theorem dJ9_max_7cf53_0 : decode cJ9_max_7cf53 0 = .ok (.iload_n 0, 1) := by decide +kernel
theorem dJ9_max_7cf53_1 : decode cJ9_max_7cf53 1 = .ok (.iload_n 1, 1) := by decide +kernel
theorem dJ9_max_7cf53_2 : decode cJ9_max_7cf53 2 = .ok (.if_icmp .lt 7, 3) := by decide +kernel
theorem dJ9_max_7cf53_5 : decode cJ9_max_7cf53 5 = .ok (.iload_n 0, 1) := by decide +kernel
theorem dJ9_max_7cf53_6 : decode cJ9_max_7cf53 6 = .ok (.goto 4, 3) := by decide +kernel
theorem dJ9_max_7cf53_9 : decode cJ9_max_7cf53 9 = .ok (.iload_n 1, 1) := by decide +kernel
theorem dJ9_max_7cf53_10 : decode cJ9_max_7cf53 10 = .ok (.ireturn, 1) := by decide +kernel
theorem dJ9_max_f86c9_0 : decode cJ9_max_f86c9 0 = .ok (.lload_n 0, 1) := by decide +kernel
theorem dJ9_max_f86c9_1 : decode cJ9_max_f86c9 1 = .ok (.lload_n 2, 1) := by decide +kernel
theorem dJ9_max_f86c9_2 : decode cJ9_max_f86c9 2 = .ok (.lcmp, 1) := by decide +kernel
theorem dJ9_max_f86c9_3 : decode cJ9_max_f86c9 3 = .ok (.ifCond .lt 7, 3) := by decide +kernel
theorem dJ9_max_f86c9_6 : decode cJ9_max_f86c9 6 = .ok (.lload_n 0, 1) := by decide +kernel
theorem dJ9_max_f86c9_7 : decode cJ9_max_f86c9 7 = .ok (.goto 4, 3) := by decide +kernel
theorem dJ9_max_f86c9_10 : decode cJ9_max_f86c9 10 = .ok (.lload_n 2, 1) := by decide +kernel
theorem dJ9_max_f86c9_11 : decode cJ9_max_f86c9 11 = .ok (.lreturn, 1) := by decide +kernel
theorem dJ9_min_7cf53_0 : decode cJ9_min_7cf53 0 = .ok (.iload_n 0, 1) := by decide +kernel
theorem dJ9_min_7cf53_1 : decode cJ9_min_7cf53 1 = .ok (.iload_n 1, 1) := by decide +kernel
theorem dJ9_min_7cf53_2 : decode cJ9_min_7cf53 2 = .ok (.if_icmp .gt 7, 3) := by decide +kernel
theorem dJ9_min_7cf53_5 : decode cJ9_min_7cf53 5 = .ok (.iload_n 0, 1) := by decide +kernel
theorem dJ9_min_7cf53_6 : decode cJ9_min_7cf53 6 = .ok (.goto 4, 3) := by decide +kernel
theorem dJ9_min_7cf53_9 : decode cJ9_min_7cf53 9 = .ok (.iload_n 1, 1) := by decide +kernel
theorem dJ9_min_7cf53_10 : decode cJ9_min_7cf53 10 = .ok (.ireturn, 1) := by decide +kernel
theorem dJ7_copyOf_59c91_0 : decode cJ7_copyOf_59c91 0 = .ok (.iload_n 1, 1) := by decide +kernel
theorem dJ7_copyOf_59c91_1 : decode cJ7_copyOf_59c91 1 = .ok (.aload_n 0, 1) := by decide +kernel
theorem dJ7_copyOf_59c91_2 : decode cJ7_copyOf_59c91 2 = .ok (.arraylength, 1) := by decide +kernel
theorem dJ7_copyOf_59c91_3 : decode cJ7_copyOf_59c91 3 = .ok (.if_icmp .ne 11, 3) := by decide +kernel
theorem dJ7_copyOf_59c91_6 : decode cJ7_copyOf_59c91 6 = .ok (.aload_n 0, 1) := by decide +kernel
theorem dJ7_copyOf_59c91_7 : decode cJ7_copyOf_59c91 7 = .ok (.invokevirtual 316, 3) := by decide +kernel
theorem dJ7_copyOf_59c91_10 : decode cJ7_copyOf_59c91 10 = .ok (.checkcast 317, 3) := by decide +kernel
theorem dJ7_copyOf_59c91_13 : decode cJ7_copyOf_59c91 13 = .ok (.areturn, 1) := by decide +kernel
theorem dJ7_copyOf_59c91_14 : decode cJ7_copyOf_59c91 14 = .ok (.iload_n 1, 1) := by decide +kernel
theorem dJ7_copyOf_59c91_15 : decode cJ7_copyOf_59c91 15 = .ok (.newarray .int, 2) := by decide +kernel
theorem dJ7_copyOf_59c91_17 : decode cJ7_copyOf_59c91 17 = .ok (.astore_n 2, 1) := by decide +kernel
theorem dJ7_copyOf_59c91_18 : decode cJ7_copyOf_59c91 18 = .ok (.aload_n 0, 1) := by decide +kernel
theorem dJ7_copyOf_59c91_19 : decode cJ7_copyOf_59c91 19 = .ok (.iconst 0, 1) := by decide +kernel
theorem dJ7_copyOf_59c91_20 : decode cJ7_copyOf_59c91 20 = .ok (.aload_n 2, 1) := by decide +kernel
theorem dJ7_copyOf_59c91_21 : decode cJ7_copyOf_59c91 21 = .ok (.iconst 0, 1) := by decide +kernel
theorem dJ7_copyOf_59c91_22 : decode cJ7_copyOf_59c91 22 = .ok (.aload_n 0, 1) := by decide +kernel
theorem dJ7_copyOf_59c91_23 : decode cJ7_copyOf_59c91 23 = .ok (.arraylength, 1) := by decide +kernel
theorem dJ7_copyOf_59c91_24 : decode cJ7_copyOf_59c91 24 = .ok (.iload_n 1, 1) := by decide +kernel
theorem dJ7_copyOf_59c91_25 : decode cJ7_copyOf_59c91 25 = .ok (.invokestatic 304, 3) := by decide +kernel
theorem dJ7_copyOf_59c91_28 : decode cJ7_copyOf_59c91 28 = .ok (.invokestatic 150, 3) := by decide +kernel
theorem dJ7_copyOf_59c91_31 : decode cJ7_copyOf_59c91 31 = .ok (.aload_n 2, 1) := by decide +kernel
theorem dJ7_copyOf_59c91_32 : decode cJ7_copyOf_59c91 32 = .ok (.areturn, 1) := by decide +kernel
