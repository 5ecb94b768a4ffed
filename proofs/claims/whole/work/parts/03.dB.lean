theorem dX6_init_0 : decode cX6_init 0 = .ok (.aload_n 0, 1) := by decide +kernel
theorem dX6_init_1 : decode cX6_init 1 = .ok (.invokespecial 3, 3) := by decide +kernel
theorem dX6_init_4 : decode cX6_init 4 = .ok (.aload_n 0, 1) := by decide +kernel
theorem dX6_init_5 : decode cX6_init 5 = .ok (.bipush 40, 2) := by decide +kernel
theorem dX6_init_7 : decode cX6_init 7 = .ok (.anewarray 9, 3) := by decide +kernel
theorem dX6_init_10 : decode cX6_init 10 = .ok (.putfield 11, 3) := by decide +kernel
theorem dX6_init_13 : decode cX6_init 13 = .ok (.aload_n 0, 1) := by decide +kernel
theorem dX6_init_14 : decode cX6_init 14 = .ok (.sipush 200, 3) := by decide +kernel
theorem dX6_init_17 : decode cX6_init 17 = .ok (.anewarray 15, 3) := by decide +kernel
theorem dX6_init_20 : decode cX6_init 20 = .ok (.putfield 17, 3) := by decide +kernel
theorem dX6_init_23 : decode cX6_init 23 = .ok (.aload_n 0, 1) := by decide +kernel
theorem dX6_init_24 : decode cX6_init 24 = .ok (.new 21, 3) := by decide +kernel
theorem dX6_init_27 : decode cX6_init 27 = .ok (.dup, 1) := by decide +kernel
theorem dX6_init_28 : decode cX6_init 28 = .ok (.invokespecial 23, 3) := by decide +kernel
theorem dX6_init_31 : decode cX6_init 31 = .ok (.putfield 24, 3) := by decide +kernel
theorem dX6_init_34 : decode cX6_init 34 = .ok (.aload_n 0, 1) := by decide +kernel
theorem dX6_init_35 : decode cX6_init 35 = .ok (.new 28, 3) := by decide +kernel
theorem dX6_init_38 : decode cX6_init 38 = .ok (.dup, 1) := by decide +kernel
theorem dX6_init_39 : decode cX6_init 39 = .ok (.aload_n 0, 1) := by decide +kernel
theorem dX6_init_40 : decode cX6_init 40 = .ok (.getfield 24, 3) := by decide +kernel
theorem dX6_init_43 : decode cX6_init 43 = .ok (.invokespecial 30, 3) := by decide +kernel
theorem dX6_init_46 : decode cX6_init 46 = .ok (.putfield 33, 3) := by decide +kernel
theorem dX6_init_49 : decode cX6_init 49 = .ok (.aload_n 0, 1) := by decide +kernel
theorem dX6_init_50 : decode cX6_init 50 = .ok (.new 37, 3) := by decide +kernel
theorem dX6_init_53 : decode cX6_init 53 = .ok (.dup, 1) := by decide +kernel
theorem dX6_init_54 : decode cX6_init 54 = .ok (.invokespecial 39, 3) := by decide +kernel
theorem dX6_init_57 : decode cX6_init 57 = .ok (.putfield 40, 3) := by decide +kernel
theorem dX6_init_60 : decode cX6_init 60 = .ok (.aload_n 0, 1) := by decide +kernel
theorem dX6_init_61 : decode cX6_init 61 = .ok (.new 44, 3) := by decide +kernel
theorem dX6_init_64 : decode cX6_init 64 = .ok (.dup, 1) := by decide +kernel
theorem dX6_init_65 : decode cX6_init 65 = .ok (.invokespecial 46, 3) := by decide +kernel
theorem dX6_init_68 : decode cX6_init 68 = .ok (.putfield 47, 3) := by decide +kernel
theorem dX6_init_71 : decode cX6_init 71 = .ok (.return_, 1) := by decide +kernel
theorem dX6_join_0 : decode cX6_join 0 = .ok (.iload_n 1, 1) := by decide +kernel
theorem dX6_join_1 : decode cX6_join 1 = .ok (.bipush 16, 2) := by decide +kernel
theorem dX6_join_3 : decode cX6_join 3 = .ok (.if_icmp .lt 18, 3) := by decide +kernel
theorem dX6_join_6 : decode cX6_join 6 = .ok (.iload_n 1, 1) := by decide +kernel
theorem dX6_join_7 : decode cX6_join 7 = .ok (.bipush 60, 2) := by decide +kernel
theorem dX6_join_9 : decode cX6_join 9 = .ok (.if_icmp .gt 12, 3) := by decide +kernel
theorem dX6_join_12 : decode cX6_join 12 = .ok (.iload_n 2, 1) := by decide +kernel
theorem dX6_join_13 : decode cX6_join 13 = .ok (.ifCond .lt 8, 3) := by decide +kernel
theorem dX6_join_16 : decode cX6_join 16 = .ok (.iload_n 2, 1) := by decide +kernel
theorem dX6_join_17 : decode cX6_join 17 = .ok (.iconst 4, 1) := by decide +kernel
theorem dX6_join_18 : decode cX6_join 18 = .ok (.if_icmp .lt 5, 3) := by decide +kernel
theorem dX6_join_21 : decode cX6_join 21 = .ok (.iconst (-1), 1) := by decide +kernel
theorem dX6_join_22 : decode cX6_join 22 = .ok (.ireturn, 1) := by decide +kernel
theorem dX6_join_23 : decode cX6_join 23 = .ok (.aload_n 0, 1) := by decide +kernel
theorem dX6_join_24 : decode cX6_join 24 = .ok (.getfield 51, 3) := by decide +kernel
theorem dX6_join_27 : decode cX6_join 27 = .ok (.bipush 40, 2) := by decide +kernel
theorem dX6_join_29 : decode cX6_join 29 = .ok (.if_icmp .lt 5, 3) := by decide +kernel
theorem dX6_join_32 : decode cX6_join 32 = .ok (.iconst (-1), 1) := by decide +kernel
theorem dX6_join_33 : decode cX6_join 33 = .ok (.ireturn, 1) := by decide +kernel
theorem dX6_join_34 : decode cX6_join 34 = .ok (.aload_n 0, 1) := by decide +kernel
theorem dX6_join_35 : decode cX6_join 35 = .ok (.getfield 11, 3) := by decide +kernel
theorem dX6_join_38 : decode cX6_join 38 = .ok (.aload_n 0, 1) := by decide +kernel
theorem dX6_join_39 : decode cX6_join 39 = .ok (.getfield 51, 3) := by decide +kernel
theorem dX6_join_42 : decode cX6_join 42 = .ok (.new 9, 3) := by decide +kernel
theorem dX6_join_45 : decode cX6_join 45 = .ok (.dup, 1) := by decide +kernel
theorem dX6_join_46 : decode cX6_join 46 = .ok (.iload_n 1, 1) := by decide +kernel
theorem dX6_join_47 : decode cX6_join 47 = .ok (.iload_n 2, 1) := by decide +kernel
theorem dX6_join_48 : decode cX6_join 48 = .ok (.aload_n 0, 1) := by decide +kernel
theorem dX6_join_49 : decode cX6_join 49 = .ok (.getfield 55, 3) := by decide +kernel
theorem dX6_join_52 : decode cX6_join 52 = .ok (.invokespecial 58, 3) := by decide +kernel
theorem dX6_join_55 : decode cX6_join 55 = .ok (.aastore, 1) := by decide +kernel
theorem dX6_join_56 : decode cX6_join 56 = .ok (.aload_n 0, 1) := by decide +kernel
theorem dX6_join_57 : decode cX6_join 57 = .ok (.dup, 1) := by decide +kernel
theorem dX6_join_58 : decode cX6_join 58 = .ok (.getfield 51, 3) := by decide +kernel
theorem dX6_join_61 : decode cX6_join 61 = .ok (.iconst 1, 1) := by decide +kernel
theorem dX6_join_62 : decode cX6_join 62 = .ok (.iadd, 1) := by decide +kernel
theorem dX6_join_63 : decode cX6_join 63 = .ok (.putfield 51, 3) := by decide +kernel
theorem dX6_join_66 : decode cX6_join 66 = .ok (.aload_n 0, 1) := by decide +kernel
theorem dX6_join_67 : decode cX6_join 67 = .ok (.getfield 51, 3) := by decide +kernel
theorem dX6_join_70 : decode cX6_join 70 = .ok (.iconst 1, 1) := by decide +kernel
theorem dX6_join_71 : decode cX6_join 71 = .ok (.isub, 1) := by decide +kernel
theorem dX6_join_72 : decode cX6_join 72 = .ok (.ireturn, 1) := by decide +kernel
theorem dX6_pay_0 : decode cX6_pay 0 = .ok (.aload_n 0, 1) := by decide +kernel
theorem dX6_pay_1 : decode cX6_pay 1 = .ok (.iload_n 1, 1) := by decide +kernel
theorem dX6_pay_2 : decode cX6_pay 2 = .ok (.invokevirtual 61, 3) := by decide +kernel
theorem dX6_pay_5 : decode cX6_pay 5 = .ok (.astore_n 3, 1) := by decide +kernel
theorem dX6_pay_6 : decode cX6_pay 6 = .ok (.aload_n 3, 1) := by decide +kernel
theorem dX6_pay_7 : decode cX6_pay 7 = .ok (.ifnull 15, 3) := by decide +kernel
theorem dX6_pay_10 : decode cX6_pay 10 = .ok (.iload_n 2, 1) := by decide +kernel
theorem dX6_pay_11 : decode cX6_pay 11 = .ok (.iconst 1, 1) := by decide +kernel
theorem dX6_pay_12 : decode cX6_pay 12 = .ok (.if_icmp .lt 10, 3) := by decide +kernel
theorem dX6_pay_15 : decode cX6_pay 15 = .ok (.iload_n 2, 1) := by decide +kernel
theorem dX6_pay_16 : decode cX6_pay 16 = .ok (.sipush 1000, 3) := by decide +kernel
theorem dX6_pay_19 : decode cX6_pay 19 = .ok (.if_icmp .le 6, 3) := by decide +kernel
theorem dX6_pay_22 : decode cX6_pay 22 = .ok (.ldc 65, 2) := by decide +kernel
theorem dX6_pay_24 : decode cX6_pay 24 = .ok (.ireturn, 1) := by decide +kernel
theorem dX6_pay_25 : decode cX6_pay 25 = .ok (.aload_n 3, 1) := by decide +kernel
theorem dX6_pay_26 : decode cX6_pay 26 = .ok (.getfield 66, 3) := by decide +kernel
theorem dX6_pay_29 : decode cX6_pay 29 = .ok (.aload_n 0, 1) := by decide +kernel
theorem dX6_pay_30 : decode cX6_pay 30 = .ok (.getfield 55, 3) := by decide +kernel
theorem dX6_pay_33 : decode cX6_pay 33 = .ok (.dup2, 1) := by decide +kernel
theorem dX6_pay_34 : decode cX6_pay 34 = .ok (.iaload, 1) := by decide +kernel
theorem dX6_pay_35 : decode cX6_pay 35 = .ok (.iload_n 2, 1) := by decide +kernel
theorem dX6_pay_36 : decode cX6_pay 36 = .ok (.iadd, 1) := by decide +kernel
theorem dX6_pay_37 : decode cX6_pay 37 = .ok (.iastore, 1) := by decide +kernel
theorem dX6_pay_38 : decode cX6_pay 38 = .ok (.aload_n 0, 1) := by decide +kernel
theorem dX6_pay_39 : decode cX6_pay 39 = .ok (.getfield 24, 3) := by decide +kernel
theorem dX6_pay_42 : decode cX6_pay 42 = .ok (.aload_n 0, 1) := by decide +kernel
theorem dX6_pay_43 : decode cX6_pay 43 = .ok (.getfield 55, 3) := by decide +kernel
theorem dX6_pay_46 : decode cX6_pay 46 = .ok (.aload_n 0, 1) := by decide +kernel
theorem dX6_pay_47 : decode cX6_pay 47 = .ok (.getfield 55, 3) := by decide +kernel
theorem dX6_pay_50 : decode cX6_pay 50 = .ok (.invokevirtual 70, 3) := by decide +kernel
theorem dX6_pay_53 : decode cX6_pay 53 = .ok (.aload_n 3, 1) := by decide +kernel
theorem dX6_pay_54 : decode cX6_pay 54 = .ok (.aload_n 0, 1) := by decide +kernel
theorem dX6_pay_55 : decode cX6_pay 55 = .ok (.getfield 55, 3) := by decide +kernel
theorem dX6_pay_58 : decode cX6_pay 58 = .ok (.aload_n 0, 1) := by decide +kernel
theorem dX6_pay_59 : decode cX6_pay 59 = .ok (.getfield 55, 3) := by decide +kernel
theorem dX6_pay_62 : decode cX6_pay 62 = .ok (.aload_n 0, 1) := by decide +kernel
theorem dX6_pay_63 : decode cX6_pay 63 = .ok (.getfield 24, 3) := by decide +kernel
theorem dX6_pay_66 : decode cX6_pay 66 = .ok (.invokevirtual 74, 3) := by decide +kernel
theorem dX6_pay_69 : decode cX6_pay 69 = .ok (.ireturn, 1) := by decide +kernel
theorem dX6_rule_0 : decode cX6_rule 0 = .ok (.iload_n 1, 1) := by decide +kernel
theorem dX6_rule_1 : decode cX6_rule 1 = .ok (.iload_n 2, 1) := by decide +kernel
theorem dX6_rule_2 : decode cX6_rule 2 = .ok (.iload_n 3, 1) := by decide +kernel
theorem dX6_rule_3 : decode cX6_rule 3 = .ok (.invokestatic 78, 3) := by decide +kernel
theorem dX6_rule_6 : decode cX6_rule 6 = .ok (.ifCond .eq 13, 3) := by decide +kernel
theorem dX6_rule_9 : decode cX6_rule 9 = .ok (.aload_n 0, 1) := by decide +kernel
theorem dX6_rule_10 : decode cX6_rule 10 = .ok (.getfield 24, 3) := by decide +kernel
theorem dX6_rule_13 : decode cX6_rule 13 = .ok (.invokevirtual 82, 3) := by decide +kernel
theorem dX6_rule_16 : decode cX6_rule 16 = .ok (.ifCond .eq 5, 3) := by decide +kernel
theorem dX6_rule_19 : decode cX6_rule 19 = .ok (.iconst (-1), 1) := by decide +kernel
theorem dX6_rule_20 : decode cX6_rule 20 = .ok (.ireturn, 1) := by decide +kernel
theorem dX6_rule_21 : decode cX6_rule 21 = .ok (.aload_n 0, 1) := by decide +kernel
theorem dX6_rule_22 : decode cX6_rule 22 = .ok (.getfield 24, 3) := by decide +kernel
theorem dX6_rule_25 : decode cX6_rule 25 = .ok (.iload_n 1, 1) := by decide +kernel
theorem dX6_rule_26 : decode cX6_rule 26 = .ok (.iload_n 2, 1) := by decide +kernel
theorem dX6_rule_27 : decode cX6_rule 27 = .ok (.iload_n 3, 1) := by decide +kernel
theorem dX6_rule_28 : decode cX6_rule 28 = .ok (.aload_n 0, 1) := by decide +kernel
theorem dX6_rule_29 : decode cX6_rule 29 = .ok (.getfield 55, 3) := by decide +kernel
theorem dX6_rule_32 : decode cX6_rule 32 = .ok (.invokevirtual 86, 3) := by decide +kernel
theorem dX6_rule_35 : decode cX6_rule 35 = .ok (.iconst 0, 1) := by decide +kernel
theorem dX6_rule_36 : decode cX6_rule 36 = .ok (.istore 4, 2) := by decide +kernel
theorem dX6_rule_38 : decode cX6_rule 38 = .ok (.iload 4, 2) := by decide +kernel
theorem dX6_rule_40 : decode cX6_rule 40 = .ok (.aload_n 0, 1) := by decide +kernel
theorem dX6_rule_41 : decode cX6_rule 41 = .ok (.getfield 51, 3) := by decide +kernel
theorem dX6_rule_44 : decode cX6_rule 44 = .ok (.if_icmp .ge 20, 3) := by decide +kernel
theorem dX6_rule_47 : decode cX6_rule 47 = .ok (.aload_n 0, 1) := by decide +kernel
theorem dX6_rule_48 : decode cX6_rule 48 = .ok (.getfield 11, 3) := by decide +kernel
theorem dX6_rule_51 : decode cX6_rule 51 = .ok (.iload 4, 2) := by decide +kernel
theorem dX6_rule_53 : decode cX6_rule 53 = .ok (.aaload, 1) := by decide +kernel
theorem dX6_rule_54 : decode cX6_rule 54 = .ok (.iconst 1, 1) := by decide +kernel
theorem dX6_rule_55 : decode cX6_rule 55 = .ok (.putfield 90, 3) := by decide +kernel
theorem dX6_rule_58 : decode cX6_rule 58 = .ok (.iinc 4 1, 3) := by decide +kernel
theorem dX6_rule_61 : decode cX6_rule 61 = .ok (.goto (-23), 3) := by decide +kernel
theorem dX6_rule_64 : decode cX6_rule 64 = .ok (.aload_n 0, 1) := by decide +kernel
theorem dX6_rule_65 : decode cX6_rule 65 = .ok (.getfield 24, 3) := by decide +kernel
theorem dX6_rule_68 : decode cX6_rule 68 = .ok (.getfield 94, 3) := by decide +kernel
theorem dX6_rule_71 : decode cX6_rule 71 = .ok (.ireturn, 1) := by decide +kernel
theorem dX6_paper_0 : decode cX6_paper 0 = .ok (.aload_n 0, 1) := by decide +kernel
theorem dX6_paper_1 : decode cX6_paper 1 = .ok (.iload_n 1, 1) := by decide +kernel
theorem dX6_paper_2 : decode cX6_paper 2 = .ok (.invokevirtual 61, 3) := by decide +kernel
theorem dX6_paper_5 : decode cX6_paper 5 = .ok (.astore 4, 2) := by decide +kernel
theorem dX6_paper_7 : decode cX6_paper 7 = .ok (.aload 4, 2) := by decide +kernel
theorem dX6_paper_9 : decode cX6_paper 9 = .ok (.ifnull 13, 3) := by decide +kernel
theorem dX6_paper_12 : decode cX6_paper 12 = .ok (.aload_n 0, 1) := by decide +kernel
theorem dX6_paper_13 : decode cX6_paper 13 = .ok (.getfield 97, 3) := by decide +kernel
theorem dX6_paper_16 : decode cX6_paper 16 = .ok (.sipush 200, 3) := by decide +kernel
theorem dX6_paper_19 : decode cX6_paper 19 = .ok (.if_icmp .lt 5, 3) := by decide +kernel
theorem dX6_paper_22 : decode cX6_paper 22 = .ok (.iconst (-1), 1) := by decide +kernel
theorem dX6_paper_23 : decode cX6_paper 23 = .ok (.ireturn, 1) := by decide +kernel
theorem dX6_paper_24 : decode cX6_paper 24 = .ok (.iload_n 2, 1) := by decide +kernel
theorem dX6_paper_25 : decode cX6_paper 25 = .ok (.bipush 7, 2) := by decide +kernel
theorem dX6_paper_27 : decode cX6_paper 27 = .ok (.aload 4, 2) := by decide +kernel
theorem dX6_paper_29 : decode cX6_paper 29 = .ok (.getfield 100, 3) := by decide +kernel
theorem dX6_paper_32 : decode cX6_paper 32 = .ok (.imul, 1) := by decide +kernel
theorem dX6_paper_33 : decode cX6_paper 33 = .ok (.if_icmp .lt 19, 3) := by decide +kernel
theorem dX6_paper_36 : decode cX6_paper 36 = .ok (.iload_n 3, 1) := by decide +kernel
theorem dX6_paper_37 : decode cX6_paper 37 = .ok (.iload_n 2, 1) := by decide +kernel
theorem dX6_paper_38 : decode cX6_paper 38 = .ok (.if_icmp .lt 14, 3) := by decide +kernel
theorem dX6_paper_41 : decode cX6_paper 41 = .ok (.iload_n 3, 1) := by decide +kernel
theorem dX6_paper_42 : decode cX6_paper 42 = .ok (.aload_n 0, 1) := by decide +kernel
theorem dX6_paper_43 : decode cX6_paper 43 = .ok (.getfield 55, 3) := by decide +kernel
theorem dX6_paper_46 : decode cX6_paper 46 = .ok (.invokestatic 103, 3) := by decide +kernel
theorem dX6_paper_49 : decode cX6_paper 49 = .ok (.if_icmp .le 5, 3) := by decide +kernel
theorem dX6_paper_52 : decode cX6_paper 52 = .ok (.iconst (-1), 1) := by decide +kernel
theorem dX6_paper_53 : decode cX6_paper 53 = .ok (.ireturn, 1) := by decide +kernel
theorem dX6_paper_54 : decode cX6_paper 54 = .ok (.iload_n 3, 1) := by decide +kernel
theorem dX6_paper_55 : decode cX6_paper 55 = .ok (.iload_n 2, 1) := by decide +kernel
theorem dX6_paper_56 : decode cX6_paper 56 = .ok (.isub, 1) := by decide +kernel
theorem dX6_paper_57 : decode cX6_paper 57 = .ok (.iconst 1, 1) := by decide +kernel
theorem dX6_paper_58 : decode cX6_paper 58 = .ok (.iadd, 1) := by decide +kernel
theorem dX6_paper_59 : decode cX6_paper 59 = .ok (.sipush 400, 3) := by decide +kernel
theorem dX6_paper_62 : decode cX6_paper 62 = .ok (.if_icmp .le 5, 3) := by decide +kernel
theorem dX6_paper_65 : decode cX6_paper 65 = .ok (.iconst (-1), 1) := by decide +kernel
theorem dX6_paper_66 : decode cX6_paper 66 = .ok (.ireturn, 1) := by decide +kernel
theorem dX6_paper_67 : decode cX6_paper 67 = .ok (.new 15, 3) := by decide +kernel
theorem dX6_paper_70 : decode cX6_paper 70 = .ok (.dup, 1) := by decide +kernel
theorem dX6_paper_71 : decode cX6_paper 71 = .ok (.iload_n 1, 1) := by decide +kernel
theorem dX6_paper_72 : decode cX6_paper 72 = .ok (.iload_n 2, 1) := by decide +kernel
theorem dX6_paper_73 : decode cX6_paper 73 = .ok (.iload_n 3, 1) := by decide +kernel
theorem dX6_paper_74 : decode cX6_paper 74 = .ok (.aload_n 0, 1) := by decide +kernel
theorem dX6_paper_75 : decode cX6_paper 75 = .ok (.getfield 55, 3) := by decide +kernel
theorem dX6_paper_78 : decode cX6_paper 78 = .ok (.invokespecial 107, 3) := by decide +kernel
theorem dX6_paper_81 : decode cX6_paper 81 = .ok (.astore 5, 2) := by decide +kernel
theorem dX6_paper_83 : decode cX6_paper 83 = .ok (.aload_n 0, 1) := by decide +kernel
theorem dX6_paper_84 : decode cX6_paper 84 = .ok (.getfield 17, 3) := by decide +kernel
theorem dX6_paper_87 : decode cX6_paper 87 = .ok (.aload_n 0, 1) := by decide +kernel
theorem dX6_paper_88 : decode cX6_paper 88 = .ok (.getfield 97, 3) := by decide +kernel
theorem dX6_paper_91 : decode cX6_paper 91 = .ok (.aload 5, 2) := by decide +kernel
theorem dX6_paper_93 : decode cX6_paper 93 = .ok (.aastore, 1) := by decide +kernel
theorem dX6_paper_94 : decode cX6_paper 94 = .ok (.aload_n 0, 1) := by decide +kernel
theorem dX6_paper_95 : decode cX6_paper 95 = .ok (.dup, 1) := by decide +kernel
theorem dX6_paper_96 : decode cX6_paper 96 = .ok (.getfield 97, 3) := by decide +kernel
theorem dX6_paper_99 : decode cX6_paper 99 = .ok (.iconst 1, 1) := by decide +kernel
theorem dX6_paper_100 : decode cX6_paper 100 = .ok (.iadd, 1) := by decide +kernel
theorem dX6_paper_101 : decode cX6_paper 101 = .ok (.putfield 97, 3) := by decide +kernel
theorem dX6_paper_104 : decode cX6_paper 104 = .ok (.aload 4, 2) := by decide +kernel
theorem dX6_paper_106 : decode cX6_paper 106 = .ok (.aload 5, 2) := by decide +kernel
theorem dX6_paper_108 : decode cX6_paper 108 = .ok (.invokevirtual 109, 3) := by decide +kernel
theorem dX6_paper_111 : decode cX6_paper 111 = .ok (.aload 4, 2) := by decide +kernel
theorem dX6_paper_113 : decode cX6_paper 113 = .ok (.iconst 1, 1) := by decide +kernel
theorem dX6_paper_114 : decode cX6_paper 114 = .ok (.putfield 90, 3) := by decide +kernel
theorem dX6_paper_117 : decode cX6_paper 117 = .ok (.aload_n 0, 1) := by decide +kernel
theorem dX6_paper_118 : decode cX6_paper 118 = .ok (.getfield 97, 3) := by decide +kernel
theorem dX6_paper_121 : decode cX6_paper 121 = .ok (.iconst 1, 1) := by decide +kernel
theorem dX6_paper_122 : decode cX6_paper 122 = .ok (.isub, 1) := by decide +kernel
theorem dX6_paper_123 : decode cX6_paper 123 = .ok (.ireturn, 1) := by decide +kernel
theorem dX6_back_0 : decode cX6_back 0 = .ok (.aload_n 0, 1) := by decide +kernel
theorem dX6_back_1 : decode cX6_back 1 = .ok (.iload_n 1, 1) := by decide +kernel
theorem dX6_back_2 : decode cX6_back 2 = .ok (.invokevirtual 113, 3) := by decide +kernel
theorem dX6_back_5 : decode cX6_back 5 = .ok (.astore_n 2, 1) := by decide +kernel
theorem dX6_back_6 : decode cX6_back 6 = .ok (.aload_n 2, 1) := by decide +kernel
theorem dX6_back_7 : decode cX6_back 7 = .ok (.ifnull 11, 3) := by decide +kernel
theorem dX6_back_10 : decode cX6_back 10 = .ok (.aload_n 2, 1) := by decide +kernel
theorem dX6_back_11 : decode cX6_back 11 = .ok (.getfield 117, 3) := by decide +kernel
theorem dX6_back_14 : decode cX6_back 14 = .ok (.iconst (-1), 1) := by decide +kernel
theorem dX6_back_15 : decode cX6_back 15 = .ok (.if_icmp .eq 5, 3) := by decide +kernel
theorem dX6_back_18 : decode cX6_back 18 = .ok (.iconst 0, 1) := by decide +kernel
theorem dX6_back_19 : decode cX6_back 19 = .ok (.ireturn, 1) := by decide +kernel
theorem dX6_back_20 : decode cX6_back 20 = .ok (.aload_n 2, 1) := by decide +kernel
theorem dX6_back_21 : decode cX6_back 21 = .ok (.aload_n 0, 1) := by decide +kernel
theorem dX6_back_22 : decode cX6_back 22 = .ok (.getfield 55, 3) := by decide +kernel
theorem dX6_back_25 : decode cX6_back 25 = .ok (.putfield 117, 3) := by decide +kernel
theorem dX6_back_28 : decode cX6_back 28 = .ok (.aload_n 0, 1) := by decide +kernel
theorem dX6_back_29 : decode cX6_back 29 = .ok (.aload_n 2, 1) := by decide +kernel
theorem dX6_back_30 : decode cX6_back 30 = .ok (.getfield 120, 3) := by decide +kernel
theorem dX6_back_33 : decode cX6_back 33 = .ok (.invokevirtual 61, 3) := by decide +kernel
theorem dX6_back_36 : decode cX6_back 36 = .ok (.astore_n 3, 1) := by decide +kernel
theorem dX6_back_37 : decode cX6_back 37 = .ok (.aload_n 3, 1) := by decide +kernel
theorem dX6_back_38 : decode cX6_back 38 = .ok (.ifnull 8, 3) := by decide +kernel
theorem dX6_back_41 : decode cX6_back 41 = .ok (.aload_n 3, 1) := by decide +kernel
theorem dX6_back_42 : decode cX6_back 42 = .ok (.iconst 1, 1) := by decide +kernel
theorem dX6_back_43 : decode cX6_back 43 = .ok (.putfield 90, 3) := by decide +kernel
theorem dX6_back_46 : decode cX6_back 46 = .ok (.iconst 1, 1) := by decide +kernel
theorem dX6_back_47 : decode cX6_back 47 = .ok (.ireturn, 1) := by decide +kernel
theorem dX6_week_0 : decode cX6_week 0 = .ok (.aload_n 0, 1) := by decide +kernel
theorem dX6_week_1 : decode cX6_week 1 = .ok (.getfield 55, 3) := by decide +kernel
theorem dX6_week_4 : decode cX6_week 4 = .ok (.sipush 300, 3) := by decide +kernel
theorem dX6_week_7 : decode cX6_week 7 = .ok (.if_icmp .lt 5, 3) := by decide +kernel
theorem dX6_week_10 : decode cX6_week 10 = .ok (.iconst (-1), 1) := by decide +kernel
theorem dX6_week_11 : decode cX6_week 11 = .ok (.ireturn, 1) := by decide +kernel
theorem dX6_week_12 : decode cX6_week 12 = .ok (.aload_n 0, 1) := by decide +kernel
theorem dX6_week_13 : decode cX6_week 13 = .ok (.invokevirtual 123, 3) := by decide +kernel
theorem dX6_week_16 : decode cX6_week 16 = .ok (.istore_n 1, 1) := by decide +kernel
theorem dX6_week_17 : decode cX6_week 17 = .ok (.iload_n 1, 1) := by decide +kernel
theorem dX6_week_18 : decode cX6_week 18 = .ok (.sipush 20000, 3) := by decide +kernel
theorem dX6_week_21 : decode cX6_week 21 = .ok (.aload_n 0, 1) := by decide +kernel
theorem dX6_week_22 : decode cX6_week 22 = .ok (.getfield 40, 3) := by decide +kernel
theorem dX6_week_25 : decode cX6_week 25 = .ok (.getfield 127, 3) := by decide +kernel
theorem dX6_week_28 : decode cX6_week 28 = .ok (.isub, 1) := by decide +kernel
theorem dX6_week_29 : decode cX6_week 29 = .ok (.if_icmp .le 5, 3) := by decide +kernel
theorem dX6_week_32 : decode cX6_week 32 = .ok (.iconst (-1), 1) := by decide +kernel
theorem dX6_week_33 : decode cX6_week 33 = .ok (.ireturn, 1) := by decide +kernel
theorem dX6_week_34 : decode cX6_week 34 = .ok (.iload_n 1, 1) := by decide +kernel
theorem dX6_week_35 : decode cX6_week 35 = .ok (.ifCond .le 8, 3) := by decide +kernel
theorem dX6_week_38 : decode cX6_week 38 = .ok (.aload_n 0, 1) := by decide +kernel
theorem dX6_week_39 : decode cX6_week 39 = .ok (.iload_n 1, 1) := by decide +kernel
theorem dX6_week_40 : decode cX6_week 40 = .ok (.invokevirtual 128, 3) := by decide +kernel
theorem dX6_week_43 : decode cX6_week 43 = .ok (.iconst 0, 1) := by decide +kernel
theorem dX6_week_44 : decode cX6_week 44 = .ok (.istore_n 2, 1) := by decide +kernel
theorem dX6_week_45 : decode cX6_week 45 = .ok (.iload_n 2, 1) := by decide +kernel
theorem dX6_week_46 : decode cX6_week 46 = .ok (.aload_n 0, 1) := by decide +kernel
theorem dX6_week_47 : decode cX6_week 47 = .ok (.getfield 51, 3) := by decide +kernel
theorem dX6_week_50 : decode cX6_week 50 = .ok (.if_icmp .ge 22, 3) := by decide +kernel
theorem dX6_week_53 : decode cX6_week 53 = .ok (.aload_n 0, 1) := by decide +kernel
theorem dX6_week_54 : decode cX6_week 54 = .ok (.getfield 11, 3) := by decide +kernel
theorem dX6_week_57 : decode cX6_week 57 = .ok (.iload_n 2, 1) := by decide +kernel
theorem dX6_week_58 : decode cX6_week 58 = .ok (.aaload, 1) := by decide +kernel
theorem dX6_week_59 : decode cX6_week 59 = .ok (.aload_n 0, 1) := by decide +kernel
theorem dX6_week_60 : decode cX6_week 60 = .ok (.getfield 55, 3) := by decide +kernel
theorem dX6_week_63 : decode cX6_week 63 = .ok (.invokevirtual 132, 3) := by decide +kernel
theorem dX6_week_66 : decode cX6_week 66 = .ok (.iinc 2 1, 3) := by decide +kernel
theorem dX6_week_69 : decode cX6_week 69 = .ok (.goto (-24), 3) := by decide +kernel
theorem dX6_week_72 : decode cX6_week 72 = .ok (.aload_n 0, 1) := by decide +kernel
theorem dX6_week_73 : decode cX6_week 73 = .ok (.dup, 1) := by decide +kernel
theorem dX6_week_74 : decode cX6_week 74 = .ok (.getfield 55, 3) := by decide +kernel
theorem dX6_week_77 : decode cX6_week 77 = .ok (.iconst 1, 1) := by decide +kernel
theorem dX6_week_78 : decode cX6_week 78 = .ok (.iadd, 1) := by decide +kernel
theorem dX6_week_79 : decode cX6_week 79 = .ok (.putfield 55, 3) := by decide +kernel
theorem dX6_week_82 : decode cX6_week 82 = .ok (.iload_n 1, 1) := by decide +kernel
theorem dX6_week_83 : decode cX6_week 83 = .ok (.ireturn, 1) := by decide +kernel
theorem dX6_table_0 : decode cX6_table 0 = .ok (.aload_n 0, 1) := by decide +kernel
theorem dX6_table_1 : decode cX6_table 1 = .ok (.getfield 47, 3) := by decide +kernel
theorem dX6_table_4 : decode cX6_table 4 = .ok (.iload_n 1, 1) := by decide +kernel
theorem dX6_table_5 : decode cX6_table 5 = .ok (.iload_n 2, 1) := by decide +kernel
theorem dX6_table_6 : decode cX6_table 6 = .ok (.iload_n 3, 1) := by decide +kernel
theorem dX6_table_7 : decode cX6_table 7 = .ok (.invokevirtual 135, 3) := by decide +kernel
theorem dX6_table_10 : decode cX6_table 10 = .ok (.ireturn, 1) := by decide +kernel
theorem dX6_force_0 : decode cX6_force 0 = .ok (.iload_n 1, 1) := by decide +kernel
theorem dX6_force_1 : decode cX6_force 1 = .ok (.invokestatic 138, 3) := by decide +kernel
theorem dX6_force_4 : decode cX6_force 4 = .ok (.ifCond .eq 18, 3) := by decide +kernel
theorem dX6_force_7 : decode cX6_force 7 = .ok (.iload_n 2, 1) := by decide +kernel
theorem dX6_force_8 : decode cX6_force 8 = .ok (.invokestatic 142, 3) := by decide +kernel
theorem dX6_force_11 : decode cX6_force 11 = .ok (.ifCond .eq 11, 3) := by decide +kernel
theorem dX6_force_14 : decode cX6_force 14 = .ok (.aload_n 0, 1) := by decide +kernel
theorem dX6_force_15 : decode cX6_force 15 = .ok (.iload_n 3, 1) := by decide +kernel
theorem dX6_force_16 : decode cX6_force 16 = .ok (.invokevirtual 145, 3) := by decide +kernel
theorem dX6_force_19 : decode cX6_force 19 = .ok (.ifCond .ne 5, 3) := by decide +kernel
theorem dX6_force_22 : decode cX6_force 22 = .ok (.iconst (-1), 1) := by decide +kernel
theorem dX6_force_23 : decode cX6_force 23 = .ok (.ireturn, 1) := by decide +kernel
theorem dX6_force_24 : decode cX6_force 24 = .ok (.aload_n 0, 1) := by decide +kernel
theorem dX6_force_25 : decode cX6_force 25 = .ok (.getfield 24, 3) := by decide +kernel
theorem dX6_force_28 : decode cX6_force 28 = .ok (.iload_n 1, 1) := by decide +kernel
theorem dX6_force_29 : decode cX6_force 29 = .ok (.iload_n 2, 1) := by decide +kernel
theorem dX6_force_30 : decode cX6_force 30 = .ok (.iload_n 3, 1) := by decide +kernel
theorem dX6_force_31 : decode cX6_force 31 = .ok (.invokevirtual 148, 3) := by decide +kernel
theorem dX6_force_34 : decode cX6_force 34 = .ok (.ireturn, 1) := by decide +kernel
theorem dX6_grant_0 : decode cX6_grant 0 = .ok (.aload_n 0, 1) := by decide +kernel
theorem dX6_grant_1 : decode cX6_grant 1 = .ok (.iload_n 1, 1) := by decide +kernel
theorem dX6_grant_2 : decode cX6_grant 2 = .ok (.invokevirtual 61, 3) := by decide +kernel
theorem dX6_grant_5 : decode cX6_grant 5 = .ok (.astore 4, 2) := by decide +kernel
theorem dX6_grant_7 : decode cX6_grant 7 = .ok (.aload 4, 2) := by decide +kernel
theorem dX6_grant_9 : decode cX6_grant 9 = .ok (.ifnull 19, 3) := by decide +kernel
theorem dX6_grant_12 : decode cX6_grant 12 = .ok (.aload_n 0, 1) := by decide +kernel
theorem dX6_grant_13 : decode cX6_grant 13 = .ok (.iload_n 2, 1) := by decide +kernel
theorem dX6_grant_14 : decode cX6_grant 14 = .ok (.invokevirtual 145, 3) := by decide +kernel
theorem dX6_grant_17 : decode cX6_grant 17 = .ok (.ifCond .eq 11, 3) := by decide +kernel
theorem dX6_grant_20 : decode cX6_grant 20 = .ok (.aload_n 0, 1) := by decide +kernel
theorem dX6_grant_21 : decode cX6_grant 21 = .ok (.iload_n 3, 1) := by decide +kernel
theorem dX6_grant_22 : decode cX6_grant 22 = .ok (.invokevirtual 145, 3) := by decide +kernel
theorem dX6_grant_25 : decode cX6_grant 25 = .ok (.ifCond .ne 5, 3) := by decide +kernel
theorem dX6_grant_28 : decode cX6_grant 28 = .ok (.iconst (-1), 1) := by decide +kernel
theorem dX6_grant_29 : decode cX6_grant 29 = .ok (.ireturn, 1) := by decide +kernel
theorem dX6_grant_30 : decode cX6_grant 30 = .ok (.aload_n 0, 1) := by decide +kernel
theorem dX6_grant_31 : decode cX6_grant 31 = .ok (.getfield 24, 3) := by decide +kernel
theorem dX6_grant_34 : decode cX6_grant 34 = .ok (.iload_n 3, 1) := by decide +kernel
theorem dX6_grant_35 : decode cX6_grant 35 = .ok (.aload_n 0, 1) := by decide +kernel
theorem dX6_grant_36 : decode cX6_grant 36 = .ok (.getfield 55, 3) := by decide +kernel
theorem dX6_grant_39 : decode cX6_grant 39 = .ok (.invokevirtual 70, 3) := by decide +kernel
theorem dX6_grant_42 : decode cX6_grant 42 = .ok (.aload_n 0, 1) := by decide +kernel
theorem dX6_grant_43 : decode cX6_grant 43 = .ok (.getfield 33, 3) := by decide +kernel
theorem dX6_grant_46 : decode cX6_grant 46 = .ok (.aload 4, 2) := by decide +kernel
theorem dX6_grant_48 : decode cX6_grant 48 = .ok (.iload_n 2, 1) := by decide +kernel
theorem dX6_grant_49 : decode cX6_grant 49 = .ok (.iload_n 3, 1) := by decide +kernel
theorem dX6_grant_50 : decode cX6_grant 50 = .ok (.invokevirtual 152, 3) := by decide +kernel
theorem dX6_grant_53 : decode cX6_grant 53 = .ok (.ireturn, 1) := by decide +kernel
theorem dX6_day_0 : decode cX6_day 0 = .ok (.aload_n 0, 1) := by decide +kernel
theorem dX6_day_1 : decode cX6_day 1 = .ok (.iload_n 1, 1) := by decide +kernel
theorem dX6_day_2 : decode cX6_day 2 = .ok (.invokevirtual 61, 3) := by decide +kernel
theorem dX6_day_5 : decode cX6_day 5 = .ok (.astore 4, 2) := by decide +kernel
theorem dX6_day_7 : decode cX6_day 7 = .ok (.aload 4, 2) := by decide +kernel
theorem dX6_day_9 : decode cX6_day 9 = .ok (.ifnull 26, 3) := by decide +kernel
theorem dX6_day_12 : decode cX6_day 12 = .ok (.iload_n 2, 1) := by decide +kernel
theorem dX6_day_13 : decode cX6_day 13 = .ok (.ifCond .lt 22, 3) := by decide +kernel
theorem dX6_day_16 : decode cX6_day 16 = .ok (.iload_n 2, 1) := by decide +kernel
theorem dX6_day_17 : decode cX6_day 17 = .ok (.aload_n 0, 1) := by decide +kernel
theorem dX6_day_18 : decode cX6_day 18 = .ok (.getfield 55, 3) := by decide +kernel
theorem dX6_day_21 : decode cX6_day 21 = .ok (.invokestatic 103, 3) := by decide +kernel
theorem dX6_day_24 : decode cX6_day 24 = .ok (.if_icmp .gt 11, 3) := by decide +kernel
theorem dX6_day_27 : decode cX6_day 27 = .ok (.aload_n 0, 1) := by decide +kernel
theorem dX6_day_28 : decode cX6_day 28 = .ok (.iload_n 3, 1) := by decide +kernel
theorem dX6_day_29 : decode cX6_day 29 = .ok (.invokevirtual 145, 3) := by decide +kernel
theorem dX6_day_32 : decode cX6_day 32 = .ok (.ifCond .ne 5, 3) := by decide +kernel
theorem dX6_day_35 : decode cX6_day 35 = .ok (.iconst (-1), 1) := by decide +kernel
theorem dX6_day_36 : decode cX6_day 36 = .ok (.ireturn, 1) := by decide +kernel
theorem dX6_day_37 : decode cX6_day 37 = .ok (.aload_n 0, 1) := by decide +kernel
theorem dX6_day_38 : decode cX6_day 38 = .ok (.getfield 24, 3) := by decide +kernel
theorem dX6_day_41 : decode cX6_day 41 = .ok (.iload_n 3, 1) := by decide +kernel
theorem dX6_day_42 : decode cX6_day 42 = .ok (.aload_n 0, 1) := by decide +kernel
theorem dX6_day_43 : decode cX6_day 43 = .ok (.getfield 55, 3) := by decide +kernel
theorem dX6_day_46 : decode cX6_day 46 = .ok (.invokevirtual 70, 3) := by decide +kernel
theorem dX6_day_49 : decode cX6_day 49 = .ok (.aload_n 0, 1) := by decide +kernel
theorem dX6_day_50 : decode cX6_day 50 = .ok (.getfield 33, 3) := by decide +kernel
theorem dX6_day_53 : decode cX6_day 53 = .ok (.aload 4, 2) := by decide +kernel
theorem dX6_day_55 : decode cX6_day 55 = .ok (.iload_n 2, 1) := by decide +kernel
theorem dX6_day_56 : decode cX6_day 56 = .ok (.iload_n 3, 1) := by decide +kernel
theorem dX6_day_57 : decode cX6_day 57 = .ok (.invokevirtual 156, 3) := by decide +kernel
theorem dX6_day_60 : decode cX6_day 60 = .ok (.ireturn, 1) := by decide +kernel
theorem dX6_arrears_0 : decode cX6_arrears 0 = .ok (.aload_n 0, 1) := by decide +kernel
theorem dX6_arrears_1 : decode cX6_arrears 1 = .ok (.iload_n 1, 1) := by decide +kernel
theorem dX6_arrears_2 : decode cX6_arrears 2 = .ok (.invokevirtual 61, 3) := by decide +kernel
theorem dX6_arrears_5 : decode cX6_arrears 5 = .ok (.astore 4, 2) := by decide +kernel
theorem dX6_arrears_7 : decode cX6_arrears 7 = .ok (.aload 4, 2) := by decide +kernel
theorem dX6_arrears_9 : decode cX6_arrears 9 = .ok (.ifnull 19, 3) := by decide +kernel
theorem dX6_arrears_12 : decode cX6_arrears 12 = .ok (.aload_n 0, 1) := by decide +kernel
theorem dX6_arrears_13 : decode cX6_arrears 13 = .ok (.iload_n 2, 1) := by decide +kernel
theorem dX6_arrears_14 : decode cX6_arrears 14 = .ok (.invokevirtual 145, 3) := by decide +kernel
theorem dX6_arrears_17 : decode cX6_arrears 17 = .ok (.ifCond .eq 11, 3) := by decide +kernel
theorem dX6_arrears_20 : decode cX6_arrears 20 = .ok (.aload_n 0, 1) := by decide +kernel
theorem dX6_arrears_21 : decode cX6_arrears 21 = .ok (.iload_n 3, 1) := by decide +kernel
theorem dX6_arrears_22 : decode cX6_arrears 22 = .ok (.invokevirtual 145, 3) := by decide +kernel
theorem dX6_arrears_25 : decode cX6_arrears 25 = .ok (.ifCond .ne 6, 3) := by decide +kernel
theorem dX6_arrears_28 : decode cX6_arrears 28 = .ok (.ldc 65, 2) := by decide +kernel
theorem dX6_arrears_30 : decode cX6_arrears 30 = .ok (.ireturn, 1) := by decide +kernel
theorem dX6_arrears_31 : decode cX6_arrears 31 = .ok (.aload_n 0, 1) := by decide +kernel
theorem dX6_arrears_32 : decode cX6_arrears 32 = .ok (.getfield 24, 3) := by decide +kernel
theorem dX6_arrears_35 : decode cX6_arrears 35 = .ok (.iload_n 3, 1) := by decide +kernel
theorem dX6_arrears_36 : decode cX6_arrears 36 = .ok (.aload_n 0, 1) := by decide +kernel
theorem dX6_arrears_37 : decode cX6_arrears 37 = .ok (.getfield 55, 3) := by decide +kernel
theorem dX6_arrears_40 : decode cX6_arrears 40 = .ok (.invokevirtual 70, 3) := by decide +kernel
theorem dX6_arrears_43 : decode cX6_arrears 43 = .ok (.aload 4, 2) := by decide +kernel
theorem dX6_arrears_45 : decode cX6_arrears 45 = .ok (.iload_n 2, 1) := by decide +kernel
theorem dX6_arrears_46 : decode cX6_arrears 46 = .ok (.iload_n 3, 1) := by decide +kernel
theorem dX6_arrears_47 : decode cX6_arrears 47 = .ok (.aload_n 0, 1) := by decide +kernel
theorem dX6_arrears_48 : decode cX6_arrears 48 = .ok (.getfield 24, 3) := by decide +kernel
theorem dX6_arrears_51 : decode cX6_arrears 51 = .ok (.invokevirtual 74, 3) := by decide +kernel
theorem dX6_arrears_54 : decode cX6_arrears 54 = .ok (.ireturn, 1) := by decide +kernel
theorem dX6_out_0 : decode cX6_out 0 = .ok (.aload_n 0, 1) := by decide +kernel
theorem dX6_out_1 : decode cX6_out 1 = .ok (.iload_n 1, 1) := by decide +kernel
theorem dX6_out_2 : decode cX6_out 2 = .ok (.invokevirtual 61, 3) := by decide +kernel
theorem dX6_out_5 : decode cX6_out 5 = .ok (.astore 4, 2) := by decide +kernel
theorem dX6_out_7 : decode cX6_out 7 = .ok (.aload 4, 2) := by decide +kernel
theorem dX6_out_9 : decode cX6_out 9 = .ok (.ifnull 19, 3) := by decide +kernel
theorem dX6_out_12 : decode cX6_out 12 = .ok (.aload_n 0, 1) := by decide +kernel
theorem dX6_out_13 : decode cX6_out 13 = .ok (.iload_n 2, 1) := by decide +kernel
theorem dX6_out_14 : decode cX6_out 14 = .ok (.invokevirtual 145, 3) := by decide +kernel
theorem dX6_out_17 : decode cX6_out 17 = .ok (.ifCond .eq 11, 3) := by decide +kernel
theorem dX6_out_20 : decode cX6_out 20 = .ok (.aload_n 0, 1) := by decide +kernel
theorem dX6_out_21 : decode cX6_out 21 = .ok (.iload_n 3, 1) := by decide +kernel
theorem dX6_out_22 : decode cX6_out 22 = .ok (.invokevirtual 145, 3) := by decide +kernel
theorem dX6_out_25 : decode cX6_out 25 = .ok (.ifCond .ne 5, 3) := by decide +kernel
theorem dX6_out_28 : decode cX6_out 28 = .ok (.iconst 0, 1) := by decide +kernel
theorem dX6_out_29 : decode cX6_out 29 = .ok (.ireturn, 1) := by decide +kernel
theorem dX6_out_30 : decode cX6_out 30 = .ok (.aload_n 0, 1) := by decide +kernel
theorem dX6_out_31 : decode cX6_out 31 = .ok (.getfield 24, 3) := by decide +kernel
theorem dX6_out_34 : decode cX6_out 34 = .ok (.iload_n 3, 1) := by decide +kernel
theorem dX6_out_35 : decode cX6_out 35 = .ok (.aload_n 0, 1) := by decide +kernel
theorem dX6_out_36 : decode cX6_out 36 = .ok (.getfield 55, 3) := by decide +kernel
theorem dX6_out_39 : decode cX6_out 39 = .ok (.invokevirtual 70, 3) := by decide +kernel
theorem dX6_out_42 : decode cX6_out 42 = .ok (.aload 4, 2) := by decide +kernel
theorem dX6_out_44 : decode cX6_out 44 = .ok (.iload_n 2, 1) := by decide +kernel
theorem dX6_out_45 : decode cX6_out 45 = .ok (.iload_n 3, 1) := by decide +kernel
theorem dX6_out_46 : decode cX6_out 46 = .ok (.aload_n 0, 1) := by decide +kernel
theorem dX6_out_47 : decode cX6_out 47 = .ok (.getfield 24, 3) := by decide +kernel
theorem dX6_out_50 : decode cX6_out 50 = .ok (.invokevirtual 159, 3) := by decide +kernel
theorem dX6_out_53 : decode cX6_out 53 = .ok (.ireturn, 1) := by decide +kernel
theorem dX6_what_0 : decode cX6_what 0 = .ok (.aload_n 0, 1) := by decide +kernel
theorem dX6_what_1 : decode cX6_what 1 = .ok (.iload_n 1, 1) := by decide +kernel
theorem dX6_what_2 : decode cX6_what 2 = .ok (.invokevirtual 61, 3) := by decide +kernel
theorem dX6_what_5 : decode cX6_what 5 = .ok (.astore 6, 2) := by decide +kernel
theorem dX6_what_7 : decode cX6_what 7 = .ok (.aload 6, 2) := by decide +kernel
theorem dX6_what_9 : decode cX6_what 9 = .ok (.ifnull 22, 3) := by decide +kernel
theorem dX6_what_12 : decode cX6_what 12 = .ok (.aload_n 0, 1) := by decide +kernel
theorem dX6_what_13 : decode cX6_what 13 = .ok (.iload_n 2, 1) := by decide +kernel
theorem dX6_what_14 : decode cX6_what 14 = .ok (.invokevirtual 145, 3) := by decide +kernel
theorem dX6_what_17 : decode cX6_what 17 = .ok (.ifCond .eq 14, 3) := by decide +kernel
theorem dX6_what_20 : decode cX6_what 20 = .ok (.iload_n 3, 1) := by decide +kernel
theorem dX6_what_21 : decode cX6_what 21 = .ok (.iload 4, 2) := by decide +kernel
theorem dX6_what_23 : decode cX6_what 23 = .ok (.iload 5, 2) := by decide +kernel
theorem dX6_what_25 : decode cX6_what 25 = .ok (.invokestatic 78, 3) := by decide +kernel
theorem dX6_what_28 : decode cX6_what 28 = .ok (.ifCond .ne 5, 3) := by decide +kernel
theorem dX6_what_31 : decode cX6_what 31 = .ok (.iconst (-1), 1) := by decide +kernel
theorem dX6_what_32 : decode cX6_what 32 = .ok (.ireturn, 1) := by decide +kernel
theorem dX6_what_33 : decode cX6_what 33 = .ok (.aload_n 0, 1) := by decide +kernel
theorem dX6_what_34 : decode cX6_what 34 = .ok (.getfield 24, 3) := by decide +kernel
theorem dX6_what_37 : decode cX6_what 37 = .ok (.iload_n 3, 1) := by decide +kernel
theorem dX6_what_38 : decode cX6_what 38 = .ok (.iload 4, 2) := by decide +kernel
theorem dX6_what_40 : decode cX6_what 40 = .ok (.iload 5, 2) := by decide +kernel
theorem dX6_what_42 : decode cX6_what 42 = .ok (.aload_n 0, 1) := by decide +kernel
theorem dX6_what_43 : decode cX6_what 43 = .ok (.getfield 55, 3) := by decide +kernel
theorem dX6_what_46 : decode cX6_what 46 = .ok (.invokevirtual 163, 3) := by decide +kernel
theorem dX6_what_49 : decode cX6_what 49 = .ok (.aload_n 0, 1) := by decide +kernel
theorem dX6_what_50 : decode cX6_what 50 = .ok (.getfield 33, 3) := by decide +kernel
theorem dX6_what_53 : decode cX6_what 53 = .ok (.aload 6, 2) := by decide +kernel
theorem dX6_what_55 : decode cX6_what 55 = .ok (.iload_n 2, 1) := by decide +kernel
theorem dX6_what_56 : decode cX6_what 56 = .ok (.aload_n 0, 1) := by decide +kernel
theorem dX6_what_57 : decode cX6_what 57 = .ok (.getfield 55, 3) := by decide +kernel
theorem dX6_what_60 : decode cX6_what 60 = .ok (.invokevirtual 152, 3) := by decide +kernel
theorem dX6_what_63 : decode cX6_what 63 = .ok (.istore 7, 2) := by decide +kernel
theorem dX6_what_65 : decode cX6_what 65 = .ok (.aload_n 0, 1) := by decide +kernel
theorem dX6_what_66 : decode cX6_what 66 = .ok (.getfield 24, 3) := by decide +kernel
theorem dX6_what_69 : decode cX6_what 69 = .ok (.invokevirtual 166, 3) := by decide +kernel
theorem dX6_what_72 : decode cX6_what 72 = .ok (.iload 7, 2) := by decide +kernel
theorem dX6_what_74 : decode cX6_what 74 = .ok (.ireturn, 1) := by decide +kernel
theorem dX6_booked_0 : decode cX6_booked 0 = .ok (.aload_n 0, 1) := by decide +kernel
theorem dX6_booked_1 : decode cX6_booked 1 = .ok (.iload_n 1, 1) := by decide +kernel
theorem dX6_booked_2 : decode cX6_booked 2 = .ok (.invokevirtual 61, 3) := by decide +kernel
theorem dX6_booked_5 : decode cX6_booked 5 = .ok (.astore_n 3, 1) := by decide +kernel
theorem dX6_booked_6 : decode cX6_booked 6 = .ok (.aload_n 3, 1) := by decide +kernel
theorem dX6_booked_7 : decode cX6_booked 7 = .ok (.ifnull 11, 3) := by decide +kernel
theorem dX6_booked_10 : decode cX6_booked 10 = .ok (.aload_n 0, 1) := by decide +kernel
theorem dX6_booked_11 : decode cX6_booked 11 = .ok (.iload_n 2, 1) := by decide +kernel
theorem dX6_booked_12 : decode cX6_booked 12 = .ok (.invokevirtual 145, 3) := by decide +kernel
theorem dX6_booked_15 : decode cX6_booked 15 = .ok (.ifCond .ne 5, 3) := by decide +kernel
theorem dX6_booked_18 : decode cX6_booked 18 = .ok (.iconst 0, 1) := by decide +kernel
theorem dX6_booked_19 : decode cX6_booked 19 = .ok (.ireturn, 1) := by decide +kernel
theorem dX6_booked_20 : decode cX6_booked 20 = .ok (.aload_n 3, 1) := by decide +kernel
theorem dX6_booked_21 : decode cX6_booked 21 = .ok (.getfield 169, 3) := by decide +kernel
theorem dX6_booked_24 : decode cX6_booked 24 = .ok (.iload_n 2, 1) := by decide +kernel
theorem dX6_booked_25 : decode cX6_booked 25 = .ok (.iaload, 1) := by decide +kernel
theorem dX6_booked_26 : decode cX6_booked 26 = .ok (.ireturn, 1) := by decide +kernel
theorem dX6_entry_0 : decode cX6_entry 0 = .ok (.aload_n 0, 1) := by decide +kernel
theorem dX6_entry_1 : decode cX6_entry 1 = .ok (.getfield 40, 3) := by decide +kernel
theorem dX6_entry_4 : decode cX6_entry 4 = .ok (.iload_n 1, 1) := by decide +kernel
theorem dX6_entry_5 : decode cX6_entry 5 = .ok (.iload_n 2, 1) := by decide +kernel
theorem dX6_entry_6 : decode cX6_entry 6 = .ok (.invokevirtual 172, 3) := by decide +kernel
theorem dX6_entry_9 : decode cX6_entry 9 = .ok (.ireturn, 1) := by decide +kernel
theorem dX6_worth_0 : decode cX6_worth 0 = .ok (.aload_n 0, 1) := by decide +kernel
theorem dX6_worth_1 : decode cX6_worth 1 = .ok (.iload_n 1, 1) := by decide +kernel
theorem dX6_worth_2 : decode cX6_worth 2 = .ok (.invokevirtual 61, 3) := by decide +kernel
theorem dX6_worth_5 : decode cX6_worth 5 = .ok (.astore 4, 2) := by decide +kernel
theorem dX6_worth_7 : decode cX6_worth 7 = .ok (.aload 4, 2) := by decide +kernel
theorem dX6_worth_9 : decode cX6_worth 9 = .ok (.ifnull 23, 3) := by decide +kernel
theorem dX6_worth_12 : decode cX6_worth 12 = .ok (.iload_n 2, 1) := by decide +kernel
theorem dX6_worth_13 : decode cX6_worth 13 = .ok (.iconst 1, 1) := by decide +kernel
theorem dX6_worth_14 : decode cX6_worth 14 = .ok (.if_icmp .lt 18, 3) := by decide +kernel
theorem dX6_worth_17 : decode cX6_worth 17 = .ok (.iload_n 2, 1) := by decide +kernel
theorem dX6_worth_18 : decode cX6_worth 18 = .ok (.bipush 50, 2) := by decide +kernel
theorem dX6_worth_20 : decode cX6_worth 20 = .ok (.if_icmp .gt 12, 3) := by decide +kernel
theorem dX6_worth_23 : decode cX6_worth 23 = .ok (.iload_n 3, 1) := by decide +kernel
theorem dX6_worth_24 : decode cX6_worth 24 = .ok (.ifCond .lt 8, 3) := by decide +kernel
theorem dX6_worth_27 : decode cX6_worth 27 = .ok (.iload_n 3, 1) := by decide +kernel
theorem dX6_worth_28 : decode cX6_worth 28 = .ok (.iconst 1, 1) := by decide +kernel
theorem dX6_worth_29 : decode cX6_worth 29 = .ok (.if_icmp .le 7, 3) := by decide +kernel
theorem dX6_worth_32 : decode cX6_worth 32 = .ok (.ldc2_w 176, 3) := by decide +kernel
theorem dX6_worth_35 : decode cX6_worth 35 = .ok (.lreturn, 1) := by decide +kernel
theorem dX6_worth_36 : decode cX6_worth 36 = .ok (.aload 4, 2) := by decide +kernel
theorem dX6_worth_38 : decode cX6_worth 38 = .ok (.getfield 178, 3) := by decide +kernel
theorem dX6_worth_41 : decode cX6_worth 41 = .ok (.aload_n 0, 1) := by decide +kernel
theorem dX6_worth_42 : decode cX6_worth 42 = .ok (.getfield 55, 3) := by decide +kernel
theorem dX6_worth_45 : decode cX6_worth 45 = .ok (.aload 4, 2) := by decide +kernel
theorem dX6_worth_47 : decode cX6_worth 47 = .ok (.getfield 100, 3) := by decide +kernel
theorem dX6_worth_50 : decode cX6_worth 50 = .ok (.isub, 1) := by decide +kernel
theorem dX6_worth_51 : decode cX6_worth 51 = .ok (.bipush 52, 2) := by decide +kernel
theorem dX6_worth_53 : decode cX6_worth 53 = .ok (.idiv, 1) := by decide +kernel
theorem dX6_worth_54 : decode cX6_worth 54 = .ok (.iadd, 1) := by decide +kernel
theorem dX6_worth_55 : decode cX6_worth 55 = .ok (.istore 5, 2) := by decide +kernel
theorem dX6_worth_57 : decode cX6_worth 57 = .ok (.aload_n 0, 1) := by decide +kernel
theorem dX6_worth_58 : decode cX6_worth 58 = .ok (.getfield 47, 3) := by decide +kernel
theorem dX6_worth_61 : decode cX6_worth 61 = .ok (.iload 5, 2) := by decide +kernel
theorem dX6_worth_63 : decode cX6_worth 63 = .ok (.invokevirtual 181, 3) := by decide +kernel
theorem dX6_worth_66 : decode cX6_worth 66 = .ok (.i2l, 1) := by decide +kernel
theorem dX6_worth_67 : decode cX6_worth 67 = .ok (.lstore 6, 2) := by decide +kernel
theorem dX6_worth_69 : decode cX6_worth 69 = .ok (.lload 6, 2) := by decide +kernel
theorem dX6_worth_71 : decode cX6_worth 71 = .ok (.lconst 1, 1) := by decide +kernel
theorem dX6_worth_72 : decode cX6_worth 72 = .ok (.lcmp, 1) := by decide +kernel
theorem dX6_worth_73 : decode cX6_worth 73 = .ok (.ifCond .ge 7, 3) := by decide +kernel
theorem dX6_worth_76 : decode cX6_worth 76 = .ok (.ldc2_w 176, 3) := by decide +kernel
theorem dX6_worth_79 : decode cX6_worth 79 = .ok (.lreturn, 1) := by decide +kernel
theorem dX6_worth_80 : decode cX6_worth 80 = .ok (.aload_n 0, 1) := by decide +kernel
theorem dX6_worth_81 : decode cX6_worth 81 = .ok (.getfield 24, 3) := by decide +kernel
theorem dX6_worth_84 : decode cX6_worth 84 = .ok (.iconst 2, 1) := by decide +kernel
theorem dX6_worth_85 : decode cX6_worth 85 = .ok (.aload_n 0, 1) := by decide +kernel
theorem dX6_worth_86 : decode cX6_worth 86 = .ok (.getfield 55, 3) := by decide +kernel
theorem dX6_worth_89 : decode cX6_worth 89 = .ok (.aload_n 0, 1) := by decide +kernel
theorem dX6_worth_90 : decode cX6_worth 90 = .ok (.getfield 55, 3) := by decide +kernel
theorem dX6_worth_93 : decode cX6_worth 93 = .ok (.invokevirtual 148, 3) := by decide +kernel
theorem dX6_worth_96 : decode cX6_worth 96 = .ok (.istore 8, 2) := by decide +kernel
theorem dX6_worth_98 : decode cX6_worth 98 = .ok (.aload_n 0, 1) := by decide +kernel
theorem dX6_worth_99 : decode cX6_worth 99 = .ok (.getfield 24, 3) := by decide +kernel
theorem dX6_worth_102 : decode cX6_worth 102 = .ok (.iconst 0, 1) := by decide +kernel
theorem dX6_worth_103 : decode cX6_worth 103 = .ok (.aload_n 0, 1) := by decide +kernel
theorem dX6_worth_104 : decode cX6_worth 104 = .ok (.getfield 55, 3) := by decide +kernel
theorem dX6_worth_107 : decode cX6_worth 107 = .ok (.aload_n 0, 1) := by decide +kernel
theorem dX6_worth_108 : decode cX6_worth 108 = .ok (.getfield 55, 3) := by decide +kernel
theorem dX6_worth_111 : decode cX6_worth 111 = .ok (.invokevirtual 148, 3) := by decide +kernel
theorem dX6_worth_114 : decode cX6_worth 114 = .ok (.istore 9, 2) := by decide +kernel
theorem dX6_worth_116 : decode cX6_worth 116 = .ok (.aload_n 0, 1) := by decide +kernel
theorem dX6_worth_117 : decode cX6_worth 117 = .ok (.getfield 47, 3) := by decide +kernel
theorem dX6_worth_120 : decode cX6_worth 120 = .ok (.iload 5, 2) := by decide +kernel
theorem dX6_worth_122 : decode cX6_worth 122 = .ok (.iload_n 2, 1) := by decide +kernel
theorem dX6_worth_123 : decode cX6_worth 123 = .ok (.iload 8, 2) := by decide +kernel
theorem dX6_worth_125 : decode cX6_worth 125 = .ok (.bipush 52, 2) := by decide +kernel
theorem dX6_worth_127 : decode cX6_worth 127 = .ok (.iload 9, 2) := by decide +kernel
theorem dX6_worth_129 : decode cX6_worth 129 = .ok (.imul, 1) := by decide +kernel
theorem dX6_worth_130 : decode cX6_worth 130 = .ok (.invokevirtual 184, 3) := by decide +kernel
theorem dX6_worth_133 : decode cX6_worth 133 = .ok (.lstore 10, 2) := by decide +kernel
theorem dX6_worth_135 : decode cX6_worth 135 = .ok (.lload 10, 2) := by decide +kernel
theorem dX6_worth_137 : decode cX6_worth 137 = .ok (.invokestatic 188, 3) := by decide +kernel
theorem dX6_worth_140 : decode cX6_worth 140 = .ok (.lload 6, 2) := by decide +kernel
theorem dX6_worth_142 : decode cX6_worth 142 = .ok (.invokestatic 194, 3) := by decide +kernel
theorem dX6_worth_145 : decode cX6_worth 145 = .ok (.lstore 12, 2) := by decide +kernel
theorem dX6_worth_147 : decode cX6_worth 147 = .ok (.iload_n 3, 1) := by decide +kernel
theorem dX6_worth_148 : decode cX6_worth 148 = .ok (.ifCond .ne 11, 3) := by decide +kernel
theorem dX6_worth_151 : decode cX6_worth 151 = .ok (.lload 10, 2) := by decide +kernel
theorem dX6_worth_153 : decode cX6_worth 153 = .ok (.lload 12, 2) := by decide +kernel
theorem dX6_worth_155 : decode cX6_worth 155 = .ok (.ldiv, 1) := by decide +kernel
theorem dX6_worth_156 : decode cX6_worth 156 = .ok (.goto 8, 3) := by decide +kernel
theorem dX6_worth_159 : decode cX6_worth 159 = .ok (.lload 6, 2) := by decide +kernel
theorem dX6_worth_161 : decode cX6_worth 161 = .ok (.lload 12, 2) := by decide +kernel
theorem dX6_worth_163 : decode cX6_worth 163 = .ok (.ldiv, 1) := by decide +kernel
theorem dX6_worth_164 : decode cX6_worth 164 = .ok (.lreturn, 1) := by decide +kernel
theorem dX6_lodge_0 : decode cX6_lodge 0 = .ok (.iload_n 1, 1) := by decide +kernel
theorem dX6_lodge_1 : decode cX6_lodge 1 = .ok (.ifCond .lt 17, 3) := by decide +kernel
theorem dX6_lodge_4 : decode cX6_lodge 4 = .ok (.iload_n 1, 1) := by decide +kernel
theorem dX6_lodge_5 : decode cX6_lodge 5 = .ok (.iconst 4, 1) := by decide +kernel
theorem dX6_lodge_6 : decode cX6_lodge 6 = .ok (.if_icmp .ge 12, 3) := by decide +kernel
theorem dX6_lodge_9 : decode cX6_lodge 9 = .ok (.iload_n 2, 1) := by decide +kernel
theorem dX6_lodge_10 : decode cX6_lodge 10 = .ok (.ifCond .lt 8, 3) := by decide +kernel
theorem dX6_lodge_13 : decode cX6_lodge 13 = .ok (.iload_n 2, 1) := by decide +kernel
theorem dX6_lodge_14 : decode cX6_lodge 14 = .ok (.iconst 2, 1) := by decide +kernel
theorem dX6_lodge_15 : decode cX6_lodge 15 = .ok (.if_icmp .le 5, 3) := by decide +kernel
theorem dX6_lodge_18 : decode cX6_lodge 18 = .ok (.iconst (-1), 1) := by decide +kernel
theorem dX6_lodge_19 : decode cX6_lodge 19 = .ok (.ireturn, 1) := by decide +kernel
theorem dX6_lodge_20 : decode cX6_lodge 20 = .ok (.iconst 0, 1) := by decide +kernel
theorem dX6_lodge_21 : decode cX6_lodge 21 = .ok (.istore_n 3, 1) := by decide +kernel
theorem dX6_lodge_22 : decode cX6_lodge 22 = .ok (.iconst 0, 1) := by decide +kernel
theorem dX6_lodge_23 : decode cX6_lodge 23 = .ok (.istore 4, 2) := by decide +kernel
theorem dX6_lodge_25 : decode cX6_lodge 25 = .ok (.iload 4, 2) := by decide +kernel
theorem dX6_lodge_27 : decode cX6_lodge 27 = .ok (.aload_n 0, 1) := by decide +kernel
theorem dX6_lodge_28 : decode cX6_lodge 28 = .ok (.getfield 51, 3) := by decide +kernel
theorem dX6_lodge_31 : decode cX6_lodge 31 = .ok (.if_icmp .ge 38, 3) := by decide +kernel
theorem dX6_lodge_34 : decode cX6_lodge 34 = .ok (.aload_n 0, 1) := by decide +kernel
theorem dX6_lodge_35 : decode cX6_lodge 35 = .ok (.getfield 11, 3) := by decide +kernel
theorem dX6_lodge_38 : decode cX6_lodge 38 = .ok (.iload 4, 2) := by decide +kernel
theorem dX6_lodge_40 : decode cX6_lodge 40 = .ok (.aaload, 1) := by decide +kernel
theorem dX6_lodge_41 : decode cX6_lodge 41 = .ok (.getfield 198, 3) := by decide +kernel
theorem dX6_lodge_44 : decode cX6_lodge 44 = .ok (.iload_n 1, 1) := by decide +kernel
theorem dX6_lodge_45 : decode cX6_lodge 45 = .ok (.if_icmp .ne 18, 3) := by decide +kernel
theorem dX6_lodge_48 : decode cX6_lodge 48 = .ok (.iload_n 3, 1) := by decide +kernel
theorem dX6_lodge_49 : decode cX6_lodge 49 = .ok (.aload_n 0, 1) := by decide +kernel
theorem dX6_lodge_50 : decode cX6_lodge 50 = .ok (.aload_n 0, 1) := by decide +kernel
theorem dX6_lodge_51 : decode cX6_lodge 51 = .ok (.getfield 11, 3) := by decide +kernel
theorem dX6_lodge_54 : decode cX6_lodge 54 = .ok (.iload 4, 2) := by decide +kernel
theorem dX6_lodge_56 : decode cX6_lodge 56 = .ok (.aaload, 1) := by decide +kernel
theorem dX6_lodge_57 : decode cX6_lodge 57 = .ok (.iload_n 2, 1) := by decide +kernel
theorem dX6_lodge_58 : decode cX6_lodge 58 = .ok (.invokevirtual 201, 3) := by decide +kernel
theorem dX6_lodge_61 : decode cX6_lodge 61 = .ok (.iadd, 1) := by decide +kernel
theorem dX6_lodge_62 : decode cX6_lodge 62 = .ok (.istore_n 3, 1) := by decide +kernel
theorem dX6_lodge_63 : decode cX6_lodge 63 = .ok (.iinc 4 1, 3) := by decide +kernel
theorem dX6_lodge_66 : decode cX6_lodge 66 = .ok (.goto (-41), 3) := by decide +kernel
theorem dX6_lodge_69 : decode cX6_lodge 69 = .ok (.iload_n 3, 1) := by decide +kernel
theorem dX6_lodge_70 : decode cX6_lodge 70 = .ok (.ireturn, 1) := by decide +kernel
theorem dX6_member_0 : decode cX6_member 0 = .ok (.aload_n 0, 1) := by decide +kernel
theorem dX6_member_1 : decode cX6_member 1 = .ok (.iload_n 1, 1) := by decide +kernel
theorem dX6_member_2 : decode cX6_member 2 = .ok (.invokevirtual 61, 3) := by decide +kernel
theorem dX6_member_5 : decode cX6_member 5 = .ok (.astore_n 3, 1) := by decide +kernel
theorem dX6_member_6 : decode cX6_member 6 = .ok (.aload_n 3, 1) := by decide +kernel
theorem dX6_member_7 : decode cX6_member 7 = .ok (.ifnonnull 5, 3) := by decide +kernel
theorem dX6_member_10 : decode cX6_member 10 = .ok (.iconst (-1), 1) := by decide +kernel
theorem dX6_member_11 : decode cX6_member 11 = .ok (.ireturn, 1) := by decide +kernel
theorem dX6_member_12 : decode cX6_member 12 = .ok (.iload_n 2, 1) := by decide +kernel
theorem dX6_member_13 : decode cX6_member 13 = .ok (.tableswitch 56 0 3 #[31, 36, 41, 46], 31) := by decide +kernel
theorem dX6_member_44 : decode cX6_member 44 = .ok (.aload_n 3, 1) := by decide +kernel
theorem dX6_member_45 : decode cX6_member 45 = .ok (.getfield 178, 3) := by decide +kernel
theorem dX6_member_48 : decode cX6_member 48 = .ok (.ireturn, 1) := by decide +kernel
theorem dX6_member_49 : decode cX6_member 49 = .ok (.aload_n 3, 1) := by decide +kernel
theorem dX6_member_50 : decode cX6_member 50 = .ok (.getfield 198, 3) := by decide +kernel
theorem dX6_member_53 : decode cX6_member 53 = .ok (.ireturn, 1) := by decide +kernel
theorem dX6_member_54 : decode cX6_member 54 = .ok (.aload_n 3, 1) := by decide +kernel
theorem dX6_member_55 : decode cX6_member 55 = .ok (.getfield 100, 3) := by decide +kernel
theorem dX6_member_58 : decode cX6_member 58 = .ok (.ireturn, 1) := by decide +kernel
theorem dX6_member_59 : decode cX6_member 59 = .ok (.aload_n 3, 1) := by decide +kernel
theorem dX6_member_60 : decode cX6_member 60 = .ok (.getfield 66, 3) := by decide +kernel
theorem dX6_member_63 : decode cX6_member 63 = .ok (.aload_n 0, 1) := by decide +kernel
theorem dX6_member_64 : decode cX6_member 64 = .ok (.getfield 55, 3) := by decide +kernel
theorem dX6_member_67 : decode cX6_member 67 = .ok (.iaload, 1) := by decide +kernel
theorem dX6_member_68 : decode cX6_member 68 = .ok (.ireturn, 1) := by decide +kernel
theorem dX6_member_69 : decode cX6_member 69 = .ok (.iconst (-1), 1) := by decide +kernel
theorem dX6_member_70 : decode cX6_member 70 = .ok (.ireturn, 1) := by decide +kernel
theorem dX6_told_0 : decode cX6_told 0 = .ok (.aload_n 0, 1) := by decide +kernel
theorem dX6_told_1 : decode cX6_told 1 = .ok (.iload_n 1, 1) := by decide +kernel
theorem dX6_told_2 : decode cX6_told 2 = .ok (.invokevirtual 113, 3) := by decide +kernel
theorem dX6_told_5 : decode cX6_told 5 = .ok (.astore_n 3, 1) := by decide +kernel
theorem dX6_told_6 : decode cX6_told 6 = .ok (.aload_n 3, 1) := by decide +kernel
theorem dX6_told_7 : decode cX6_told 7 = .ok (.ifnonnull 5, 3) := by decide +kernel
theorem dX6_told_10 : decode cX6_told 10 = .ok (.iconst (-1), 1) := by decide +kernel
theorem dX6_told_11 : decode cX6_told 11 = .ok (.ireturn, 1) := by decide +kernel
theorem dX6_told_12 : decode cX6_told 12 = .ok (.iload_n 2, 1) := by decide +kernel
theorem dX6_told_13 : decode cX6_told 13 = .ok (.tableswitch 60 0 4 #[35, 40, 45, 50, 55], 35) := by decide +kernel
theorem dX6_told_48 : decode cX6_told 48 = .ok (.aload_n 3, 1) := by decide +kernel
theorem dX6_told_49 : decode cX6_told 49 = .ok (.getfield 120, 3) := by decide +kernel
theorem dX6_told_52 : decode cX6_told 52 = .ok (.ireturn, 1) := by decide +kernel
theorem dX6_told_53 : decode cX6_told 53 = .ok (.aload_n 3, 1) := by decide +kernel
theorem dX6_told_54 : decode cX6_told 54 = .ok (.getfield 205, 3) := by decide +kernel
theorem dX6_told_57 : decode cX6_told 57 = .ok (.ireturn, 1) := by decide +kernel
theorem dX6_told_58 : decode cX6_told 58 = .ok (.aload_n 3, 1) := by decide +kernel
theorem dX6_told_59 : decode cX6_told 59 = .ok (.getfield 208, 3) := by decide +kernel
theorem dX6_told_62 : decode cX6_told 62 = .ok (.ireturn, 1) := by decide +kernel
theorem dX6_told_63 : decode cX6_told 63 = .ok (.aload_n 3, 1) := by decide +kernel
theorem dX6_told_64 : decode cX6_told 64 = .ok (.getfield 211, 3) := by decide +kernel
theorem dX6_told_67 : decode cX6_told 67 = .ok (.ireturn, 1) := by decide +kernel
theorem dX6_told_68 : decode cX6_told 68 = .ok (.aload_n 3, 1) := by decide +kernel
theorem dX6_told_69 : decode cX6_told 69 = .ok (.getfield 117, 3) := by decide +kernel
theorem dX6_told_72 : decode cX6_told 72 = .ok (.ireturn, 1) := by decide +kernel
theorem dX6_told_73 : decode cX6_told 73 = .ok (.iconst (-1), 1) := by decide +kernel
theorem dX6_told_74 : decode cX6_told 74 = .ok (.ireturn, 1) := by decide +kernel
theorem dX6_count_0 : decode cX6_count 0 = .ok (.iload_n 1, 1) := by decide +kernel
theorem dX6_count_1 : decode cX6_count 1 = .ok (.tableswitch 98 0 7 #[47, 52, 57, 65, 70, 78, 88, 93], 47) := by decide +kernel
theorem dX6_count_48 : decode cX6_count 48 = .ok (.aload_n 0, 1) := by decide +kernel
theorem dX6_count_49 : decode cX6_count 49 = .ok (.getfield 55, 3) := by decide +kernel
theorem dX6_count_52 : decode cX6_count 52 = .ok (.ireturn, 1) := by decide +kernel
theorem dX6_count_53 : decode cX6_count 53 = .ok (.aload_n 0, 1) := by decide +kernel
theorem dX6_count_54 : decode cX6_count 54 = .ok (.getfield 51, 3) := by decide +kernel
theorem dX6_count_57 : decode cX6_count 57 = .ok (.ireturn, 1) := by decide +kernel
theorem dX6_count_58 : decode cX6_count 58 = .ok (.aload_n 0, 1) := by decide +kernel
theorem dX6_count_59 : decode cX6_count 59 = .ok (.getfield 24, 3) := by decide +kernel
theorem dX6_count_62 : decode cX6_count 62 = .ok (.getfield 94, 3) := by decide +kernel
theorem dX6_count_65 : decode cX6_count 65 = .ok (.ireturn, 1) := by decide +kernel
theorem dX6_count_66 : decode cX6_count 66 = .ok (.aload_n 0, 1) := by decide +kernel
theorem dX6_count_67 : decode cX6_count 67 = .ok (.getfield 97, 3) := by decide +kernel
theorem dX6_count_70 : decode cX6_count 70 = .ok (.ireturn, 1) := by decide +kernel
theorem dX6_count_71 : decode cX6_count 71 = .ok (.aload_n 0, 1) := by decide +kernel
theorem dX6_count_72 : decode cX6_count 72 = .ok (.getfield 40, 3) := by decide +kernel
theorem dX6_count_75 : decode cX6_count 75 = .ok (.getfield 127, 3) := by decide +kernel
theorem dX6_count_78 : decode cX6_count 78 = .ok (.ireturn, 1) := by decide +kernel
theorem dX6_count_79 : decode cX6_count 79 = .ok (.aload_n 0, 1) := by decide +kernel
theorem dX6_count_80 : decode cX6_count 80 = .ok (.invokevirtual 214, 3) := by decide +kernel
theorem dX6_count_83 : decode cX6_count 83 = .ok (.aload_n 0, 1) := by decide +kernel
theorem dX6_count_84 : decode cX6_count 84 = .ok (.invokevirtual 217, 3) := by decide +kernel
theorem dX6_count_87 : decode cX6_count 87 = .ok (.isub, 1) := by decide +kernel
theorem dX6_count_88 : decode cX6_count 88 = .ok (.ireturn, 1) := by decide +kernel
theorem dX6_count_89 : decode cX6_count 89 = .ok (.aload_n 0, 1) := by decide +kernel
theorem dX6_count_90 : decode cX6_count 90 = .ok (.invokevirtual 220, 3) := by decide +kernel
theorem dX6_count_93 : decode cX6_count 93 = .ok (.ireturn, 1) := by decide +kernel
theorem dX6_count_94 : decode cX6_count 94 = .ok (.aload_n 0, 1) := by decide +kernel
theorem dX6_count_95 : decode cX6_count 95 = .ok (.invokevirtual 214, 3) := by decide +kernel
theorem dX6_count_98 : decode cX6_count 98 = .ok (.ireturn, 1) := by decide +kernel
theorem dX6_count_99 : decode cX6_count 99 = .ok (.ldc 65, 2) := by decide +kernel
theorem dX6_count_101 : decode cX6_count 101 = .ok (.ireturn, 1) := by decide +kernel
theorem dX6_memberAt_0 : decode cX6_memberAt 0 = .ok (.iload_n 1, 1) := by decide +kernel
theorem dX6_memberAt_1 : decode cX6_memberAt 1 = .ok (.ifCond .lt 20, 3) := by decide +kernel
theorem dX6_memberAt_4 : decode cX6_memberAt 4 = .ok (.iload_n 1, 1) := by decide +kernel
theorem dX6_memberAt_5 : decode cX6_memberAt 5 = .ok (.aload_n 0, 1) := by decide +kernel
theorem dX6_memberAt_6 : decode cX6_memberAt 6 = .ok (.getfield 51, 3) := by decide +kernel
theorem dX6_memberAt_9 : decode cX6_memberAt 9 = .ok (.if_icmp .ge 12, 3) := by decide +kernel
theorem dX6_memberAt_12 : decode cX6_memberAt 12 = .ok (.aload_n 0, 1) := by decide +kernel
theorem dX6_memberAt_13 : decode cX6_memberAt 13 = .ok (.getfield 11, 3) := by decide +kernel
theorem dX6_memberAt_16 : decode cX6_memberAt 16 = .ok (.iload_n 1, 1) := by decide +kernel
theorem dX6_memberAt_17 : decode cX6_memberAt 17 = .ok (.aaload, 1) := by decide +kernel
theorem dX6_memberAt_18 : decode cX6_memberAt 18 = .ok (.goto 4, 3) := by decide +kernel
theorem dX6_memberAt_21 : decode cX6_memberAt 21 = .ok (.aconst_null, 1) := by decide +kernel
theorem dX6_memberAt_22 : decode cX6_memberAt 22 = .ok (.areturn, 1) := by decide +kernel
theorem dX6_paperAt_0 : decode cX6_paperAt 0 = .ok (.iload_n 1, 1) := by decide +kernel
theorem dX6_paperAt_1 : decode cX6_paperAt 1 = .ok (.ifCond .lt 20, 3) := by decide +kernel
theorem dX6_paperAt_4 : decode cX6_paperAt 4 = .ok (.iload_n 1, 1) := by decide +kernel
theorem dX6_paperAt_5 : decode cX6_paperAt 5 = .ok (.aload_n 0, 1) := by decide +kernel
theorem dX6_paperAt_6 : decode cX6_paperAt 6 = .ok (.getfield 97, 3) := by decide +kernel
theorem dX6_paperAt_9 : decode cX6_paperAt 9 = .ok (.if_icmp .ge 12, 3) := by decide +kernel
theorem dX6_paperAt_12 : decode cX6_paperAt 12 = .ok (.aload_n 0, 1) := by decide +kernel
theorem dX6_paperAt_13 : decode cX6_paperAt 13 = .ok (.getfield 17, 3) := by decide +kernel
theorem dX6_paperAt_16 : decode cX6_paperAt 16 = .ok (.iload_n 1, 1) := by decide +kernel
theorem dX6_paperAt_17 : decode cX6_paperAt 17 = .ok (.aaload, 1) := by decide +kernel
theorem dX6_paperAt_18 : decode cX6_paperAt 18 = .ok (.goto 4, 3) := by decide +kernel
theorem dX6_paperAt_21 : decode cX6_paperAt 21 = .ok (.aconst_null, 1) := by decide +kernel
theorem dX6_paperAt_22 : decode cX6_paperAt 22 = .ok (.areturn, 1) := by decide +kernel
theorem dX6_isPast_0 : decode cX6_isPast 0 = .ok (.iload_n 1, 1) := by decide +kernel
theorem dX6_isPast_1 : decode cX6_isPast 1 = .ok (.ifCond .lt 15, 3) := by decide +kernel
theorem dX6_isPast_4 : decode cX6_isPast 4 = .ok (.iload_n 1, 1) := by decide +kernel
theorem dX6_isPast_5 : decode cX6_isPast 5 = .ok (.aload_n 0, 1) := by decide +kernel
theorem dX6_isPast_6 : decode cX6_isPast 6 = .ok (.getfield 55, 3) := by decide +kernel
theorem dX6_isPast_9 : decode cX6_isPast 9 = .ok (.if_icmp .gt 7, 3) := by decide +kernel
theorem dX6_isPast_12 : decode cX6_isPast 12 = .ok (.iconst 1, 1) := by decide +kernel
theorem dX6_isPast_13 : decode cX6_isPast 13 = .ok (.goto 4, 3) := by decide +kernel
theorem dX6_isPast_16 : decode cX6_isPast 16 = .ok (.iconst 0, 1) := by decide +kernel
theorem dX6_isPast_17 : decode cX6_isPast 17 = .ok (.ireturn, 1) := by decide +kernel
theorem dX6_lastDayOf_0 : decode cX6_lastDayOf 0 = .ok (.bipush 7, 2) := by decide +kernel
theorem dX6_lastDayOf_2 : decode cX6_lastDayOf 2 = .ok (.iload_n 0, 1) := by decide +kernel
theorem dX6_lastDayOf_3 : decode cX6_lastDayOf 3 = .ok (.imul, 1) := by decide +kernel
theorem dX6_lastDayOf_4 : decode cX6_lastDayOf 4 = .ok (.bipush 7, 2) := by decide +kernel
theorem dX6_lastDayOf_6 : decode cX6_lastDayOf 6 = .ok (.iadd, 1) := by decide +kernel
theorem dX6_lastDayOf_7 : decode cX6_lastDayOf 7 = .ok (.iconst 1, 1) := by decide +kernel
theorem dX6_lastDayOf_8 : decode cX6_lastDayOf 8 = .ok (.isub, 1) := by decide +kernel
theorem dX6_lastDayOf_9 : decode cX6_lastDayOf 9 = .ok (.ireturn, 1) := by decide +kernel
theorem dX6_shareOf_0 : decode cX6_shareOf 0 = .ok (.iload_n 2, 1) := by decide +kernel
theorem dX6_shareOf_1 : decode cX6_shareOf 1 = .ok (.lookupswitch 39 #[(0, 27), (1, 29)], 27) := by decide +kernel
theorem dX6_shareOf_28 : decode cX6_shareOf 28 = .ok (.iconst 1, 1) := by decide +kernel
theorem dX6_shareOf_29 : decode cX6_shareOf 29 = .ok (.ireturn, 1) := by decide +kernel
theorem dX6_shareOf_30 : decode cX6_shareOf 30 = .ok (.aload_n 1, 1) := by decide +kernel
theorem dX6_shareOf_31 : decode cX6_shareOf 31 = .ok (.getfield 66, 3) := by decide +kernel
theorem dX6_shareOf_34 : decode cX6_shareOf 34 = .ok (.aload_n 0, 1) := by decide +kernel
theorem dX6_shareOf_35 : decode cX6_shareOf 35 = .ok (.getfield 55, 3) := by decide +kernel
theorem dX6_shareOf_38 : decode cX6_shareOf 38 = .ok (.iaload, 1) := by decide +kernel
theorem dX6_shareOf_39 : decode cX6_shareOf 39 = .ok (.ireturn, 1) := by decide +kernel
theorem dX6_shareOf_40 : decode cX6_shareOf 40 = .ok (.aload_n 1, 1) := by decide +kernel
theorem dX6_shareOf_41 : decode cX6_shareOf 41 = .ok (.getfield 223, 3) := by decide +kernel
theorem dX6_shareOf_44 : decode cX6_shareOf 44 = .ok (.ireturn, 1) := by decide +kernel
theorem dX6_coinsPaid_0 : decode cX6_coinsPaid 0 = .ok (.iconst 0, 1) := by decide +kernel
theorem dX6_coinsPaid_1 : decode cX6_coinsPaid 1 = .ok (.istore_n 1, 1) := by decide +kernel
theorem dX6_coinsPaid_2 : decode cX6_coinsPaid 2 = .ok (.iconst 0, 1) := by decide +kernel
theorem dX6_coinsPaid_3 : decode cX6_coinsPaid 3 = .ok (.istore_n 2, 1) := by decide +kernel
theorem dX6_coinsPaid_4 : decode cX6_coinsPaid 4 = .ok (.iload_n 2, 1) := by decide +kernel
theorem dX6_coinsPaid_5 : decode cX6_coinsPaid 5 = .ok (.aload_n 0, 1) := by decide +kernel
theorem dX6_coinsPaid_6 : decode cX6_coinsPaid 6 = .ok (.getfield 51, 3) := by decide +kernel
theorem dX6_coinsPaid_9 : decode cX6_coinsPaid 9 = .ok (.if_icmp .ge 26, 3) := by decide +kernel
theorem dX6_coinsPaid_12 : decode cX6_coinsPaid 12 = .ok (.iload_n 1, 1) := by decide +kernel
theorem dX6_coinsPaid_13 : decode cX6_coinsPaid 13 = .ok (.aload_n 0, 1) := by decide +kernel
theorem dX6_coinsPaid_14 : decode cX6_coinsPaid 14 = .ok (.getfield 11, 3) := by decide +kernel
theorem dX6_coinsPaid_17 : decode cX6_coinsPaid 17 = .ok (.iload_n 2, 1) := by decide +kernel
theorem dX6_coinsPaid_18 : decode cX6_coinsPaid 18 = .ok (.aaload, 1) := by decide +kernel
theorem dX6_coinsPaid_19 : decode cX6_coinsPaid 19 = .ok (.getfield 66, 3) := by decide +kernel
theorem dX6_coinsPaid_22 : decode cX6_coinsPaid 22 = .ok (.aload_n 0, 1) := by decide +kernel
theorem dX6_coinsPaid_23 : decode cX6_coinsPaid 23 = .ok (.getfield 55, 3) := by decide +kernel
theorem dX6_coinsPaid_26 : decode cX6_coinsPaid 26 = .ok (.iaload, 1) := by decide +kernel
theorem dX6_coinsPaid_27 : decode cX6_coinsPaid 27 = .ok (.iadd, 1) := by decide +kernel
theorem dX6_coinsPaid_28 : decode cX6_coinsPaid 28 = .ok (.istore_n 1, 1) := by decide +kernel
theorem dX6_coinsPaid_29 : decode cX6_coinsPaid 29 = .ok (.iinc 2 1, 3) := by decide +kernel
theorem dX6_coinsPaid_32 : decode cX6_coinsPaid 32 = .ok (.goto (-28), 3) := by decide +kernel
theorem dX6_coinsPaid_35 : decode cX6_coinsPaid 35 = .ok (.iload_n 1, 1) := by decide +kernel
theorem dX6_coinsPaid_36 : decode cX6_coinsPaid 36 = .ok (.ireturn, 1) := by decide +kernel
theorem dX6_coinsBooked_0 : decode cX6_coinsBooked 0 = .ok (.iconst 0, 1) := by decide +kernel
theorem dX6_coinsBooked_1 : decode cX6_coinsBooked 1 = .ok (.istore_n 1, 1) := by decide +kernel
theorem dX6_coinsBooked_2 : decode cX6_coinsBooked 2 = .ok (.iconst 0, 1) := by decide +kernel
theorem dX6_coinsBooked_3 : decode cX6_coinsBooked 3 = .ok (.istore_n 2, 1) := by decide +kernel
theorem dX6_coinsBooked_4 : decode cX6_coinsBooked 4 = .ok (.iload_n 2, 1) := by decide +kernel
theorem dX6_coinsBooked_5 : decode cX6_coinsBooked 5 = .ok (.aload_n 0, 1) := by decide +kernel
theorem dX6_coinsBooked_6 : decode cX6_coinsBooked 6 = .ok (.getfield 51, 3) := by decide +kernel
theorem dX6_coinsBooked_9 : decode cX6_coinsBooked 9 = .ok (.if_icmp .ge 21, 3) := by decide +kernel
theorem dX6_coinsBooked_12 : decode cX6_coinsBooked 12 = .ok (.iload_n 1, 1) := by decide +kernel
theorem dX6_coinsBooked_13 : decode cX6_coinsBooked 13 = .ok (.aload_n 0, 1) := by decide +kernel
theorem dX6_coinsBooked_14 : decode cX6_coinsBooked 14 = .ok (.getfield 11, 3) := by decide +kernel
theorem dX6_coinsBooked_17 : decode cX6_coinsBooked 17 = .ok (.iload_n 2, 1) := by decide +kernel
theorem dX6_coinsBooked_18 : decode cX6_coinsBooked 18 = .ok (.aaload, 1) := by decide +kernel
theorem dX6_coinsBooked_19 : decode cX6_coinsBooked 19 = .ok (.getfield 223, 3) := by decide +kernel
theorem dX6_coinsBooked_22 : decode cX6_coinsBooked 22 = .ok (.iadd, 1) := by decide +kernel
theorem dX6_coinsBooked_23 : decode cX6_coinsBooked 23 = .ok (.istore_n 1, 1) := by decide +kernel
theorem dX6_coinsBooked_24 : decode cX6_coinsBooked 24 = .ok (.iinc 2 1, 3) := by decide +kernel
theorem dX6_coinsBooked_27 : decode cX6_coinsBooked 27 = .ok (.goto (-23), 3) := by decide +kernel
theorem dX6_coinsBooked_30 : decode cX6_coinsBooked 30 = .ok (.iload_n 1, 1) := by decide +kernel
theorem dX6_coinsBooked_31 : decode cX6_coinsBooked 31 = .ok (.ireturn, 1) := by decide +kernel
theorem dX6_membersOut_0 : decode cX6_membersOut 0 = .ok (.aload_n 0, 1) := by decide +kernel
theorem dX6_membersOut_1 : decode cX6_membersOut 1 = .ok (.getfield 24, 3) := by decide +kernel
theorem dX6_membersOut_4 : decode cX6_membersOut 4 = .ok (.aload_n 0, 1) := by decide +kernel
theorem dX6_membersOut_5 : decode cX6_membersOut 5 = .ok (.getfield 55, 3) := by decide +kernel
theorem dX6_membersOut_8 : decode cX6_membersOut 8 = .ok (.aload_n 0, 1) := by decide +kernel
theorem dX6_membersOut_9 : decode cX6_membersOut 9 = .ok (.getfield 55, 3) := by decide +kernel
theorem dX6_membersOut_12 : decode cX6_membersOut 12 = .ok (.invokevirtual 70, 3) := by decide +kernel
theorem dX6_membersOut_15 : decode cX6_membersOut 15 = .ok (.iconst 0, 1) := by decide +kernel
theorem dX6_membersOut_16 : decode cX6_membersOut 16 = .ok (.istore_n 1, 1) := by decide +kernel
theorem dX6_membersOut_17 : decode cX6_membersOut 17 = .ok (.iconst 0, 1) := by decide +kernel
theorem dX6_membersOut_18 : decode cX6_membersOut 18 = .ok (.istore_n 2, 1) := by decide +kernel
theorem dX6_membersOut_19 : decode cX6_membersOut 19 = .ok (.iload_n 2, 1) := by decide +kernel
theorem dX6_membersOut_20 : decode cX6_membersOut 20 = .ok (.aload_n 0, 1) := by decide +kernel
theorem dX6_membersOut_21 : decode cX6_membersOut 21 = .ok (.getfield 51, 3) := by decide +kernel
theorem dX6_membersOut_24 : decode cX6_membersOut 24 = .ok (.if_icmp .ge 36, 3) := by decide +kernel
theorem dX6_membersOut_27 : decode cX6_membersOut 27 = .ok (.aload_n 0, 1) := by decide +kernel
theorem dX6_membersOut_28 : decode cX6_membersOut 28 = .ok (.getfield 11, 3) := by decide +kernel
theorem dX6_membersOut_31 : decode cX6_membersOut 31 = .ok (.iload_n 2, 1) := by decide +kernel
theorem dX6_membersOut_32 : decode cX6_membersOut 32 = .ok (.aaload, 1) := by decide +kernel
theorem dX6_membersOut_33 : decode cX6_membersOut 33 = .ok (.aload_n 0, 1) := by decide +kernel
theorem dX6_membersOut_34 : decode cX6_membersOut 34 = .ok (.getfield 55, 3) := by decide +kernel
theorem dX6_membersOut_37 : decode cX6_membersOut 37 = .ok (.aload_n 0, 1) := by decide +kernel
theorem dX6_membersOut_38 : decode cX6_membersOut 38 = .ok (.getfield 55, 3) := by decide +kernel
theorem dX6_membersOut_41 : decode cX6_membersOut 41 = .ok (.aload_n 0, 1) := by decide +kernel
theorem dX6_membersOut_42 : decode cX6_membersOut 42 = .ok (.getfield 24, 3) := by decide +kernel
theorem dX6_membersOut_45 : decode cX6_membersOut 45 = .ok (.invokevirtual 159, 3) := by decide +kernel
theorem dX6_membersOut_48 : decode cX6_membersOut 48 = .ok (.ifCond .eq 6, 3) := by decide +kernel
theorem dX6_membersOut_51 : decode cX6_membersOut 51 = .ok (.iinc 1 1, 3) := by decide +kernel
theorem dX6_membersOut_54 : decode cX6_membersOut 54 = .ok (.iinc 2 1, 3) := by decide +kernel
theorem dX6_membersOut_57 : decode cX6_membersOut 57 = .ok (.goto (-38), 3) := by decide +kernel
theorem dX6_membersOut_60 : decode cX6_membersOut 60 = .ok (.iload_n 1, 1) := by decide +kernel
theorem dX6_membersOut_61 : decode cX6_membersOut 61 = .ok (.ireturn, 1) := by decide +kernel
theorem dX6_workAnew_0 : decode cX6_workAnew 0 = .ok (.aload_n 0, 1) := by decide +kernel
theorem dX6_workAnew_1 : decode cX6_workAnew 1 = .ok (.getfield 24, 3) := by decide +kernel
theorem dX6_workAnew_4 : decode cX6_workAnew 4 = .ok (.aload_n 0, 1) := by decide +kernel
theorem dX6_workAnew_5 : decode cX6_workAnew 5 = .ok (.getfield 55, 3) := by decide +kernel
theorem dX6_workAnew_8 : decode cX6_workAnew 8 = .ok (.aload_n 0, 1) := by decide +kernel
theorem dX6_workAnew_9 : decode cX6_workAnew 9 = .ok (.getfield 55, 3) := by decide +kernel
theorem dX6_workAnew_12 : decode cX6_workAnew 12 = .ok (.invokevirtual 70, 3) := by decide +kernel
theorem dX6_workAnew_15 : decode cX6_workAnew 15 = .ok (.iconst 0, 1) := by decide +kernel
theorem dX6_workAnew_16 : decode cX6_workAnew 16 = .ok (.istore_n 1, 1) := by decide +kernel
theorem dX6_workAnew_17 : decode cX6_workAnew 17 = .ok (.iconst 0, 1) := by decide +kernel
theorem dX6_workAnew_18 : decode cX6_workAnew 18 = .ok (.istore_n 2, 1) := by decide +kernel
theorem dX6_workAnew_19 : decode cX6_workAnew 19 = .ok (.iload_n 2, 1) := by decide +kernel
theorem dX6_workAnew_20 : decode cX6_workAnew 20 = .ok (.aload_n 0, 1) := by decide +kernel
theorem dX6_workAnew_21 : decode cX6_workAnew 21 = .ok (.getfield 51, 3) := by decide +kernel
theorem dX6_workAnew_24 : decode cX6_workAnew 24 = .ok (.if_icmp .ge 57, 3) := by decide +kernel
theorem dX6_workAnew_27 : decode cX6_workAnew 27 = .ok (.aload_n 0, 1) := by decide +kernel
theorem dX6_workAnew_28 : decode cX6_workAnew 28 = .ok (.getfield 11, 3) := by decide +kernel
theorem dX6_workAnew_31 : decode cX6_workAnew 31 = .ok (.iload_n 2, 1) := by decide +kernel
theorem dX6_workAnew_32 : decode cX6_workAnew 32 = .ok (.aaload, 1) := by decide +kernel
theorem dX6_workAnew_33 : decode cX6_workAnew 33 = .ok (.astore_n 3, 1) := by decide +kernel
theorem dX6_workAnew_34 : decode cX6_workAnew 34 = .ok (.aload_n 3, 1) := by decide +kernel
theorem dX6_workAnew_35 : decode cX6_workAnew 35 = .ok (.getfield 90, 3) := by decide +kernel
theorem dX6_workAnew_38 : decode cX6_workAnew 38 = .ok (.ifCond .eq 37, 3) := by decide +kernel
theorem dX6_workAnew_41 : decode cX6_workAnew 41 = .ok (.aload_n 0, 1) := by decide +kernel
theorem dX6_workAnew_42 : decode cX6_workAnew 42 = .ok (.getfield 33, 3) := by decide +kernel
theorem dX6_workAnew_45 : decode cX6_workAnew 45 = .ok (.aload_n 3, 1) := by decide +kernel
theorem dX6_workAnew_46 : decode cX6_workAnew 46 = .ok (.aload_n 0, 1) := by decide +kernel
theorem dX6_workAnew_47 : decode cX6_workAnew 47 = .ok (.getfield 55, 3) := by decide +kernel
theorem dX6_workAnew_50 : decode cX6_workAnew 50 = .ok (.aload_n 0, 1) := by decide +kernel
theorem dX6_workAnew_51 : decode cX6_workAnew 51 = .ok (.getfield 55, 3) := by decide +kernel
theorem dX6_workAnew_54 : decode cX6_workAnew 54 = .ok (.invokestatic 103, 3) := by decide +kernel
theorem dX6_workAnew_57 : decode cX6_workAnew 57 = .ok (.aload_n 3, 1) := by decide +kernel
theorem dX6_workAnew_58 : decode cX6_workAnew 58 = .ok (.getfield 226, 3) := by decide +kernel
theorem dX6_workAnew_61 : decode cX6_workAnew 61 = .ok (.invokevirtual 229, 3) := by decide +kernel
theorem dX6_workAnew_64 : decode cX6_workAnew 64 = .ok (.iload_n 1, 1) := by decide +kernel
theorem dX6_workAnew_65 : decode cX6_workAnew 65 = .ok (.aload_n 3, 1) := by decide +kernel
theorem dX6_workAnew_66 : decode cX6_workAnew 66 = .ok (.aload_n 0, 1) := by decide +kernel
theorem dX6_workAnew_67 : decode cX6_workAnew 67 = .ok (.getfield 55, 3) := by decide +kernel
theorem dX6_workAnew_70 : decode cX6_workAnew 70 = .ok (.invokevirtual 233, 3) := by decide +kernel
theorem dX6_workAnew_73 : decode cX6_workAnew 73 = .ok (.iadd, 1) := by decide +kernel
theorem dX6_workAnew_74 : decode cX6_workAnew 74 = .ok (.istore_n 1, 1) := by decide +kernel
theorem dX6_workAnew_75 : decode cX6_workAnew 75 = .ok (.iinc 2 1, 3) := by decide +kernel
theorem dX6_workAnew_78 : decode cX6_workAnew 78 = .ok (.goto (-59), 3) := by decide +kernel
theorem dX6_workAnew_81 : decode cX6_workAnew 81 = .ok (.iload_n 1, 1) := by decide +kernel
theorem dX6_workAnew_82 : decode cX6_workAnew 82 = .ok (.ireturn, 1) := by decide +kernel
theorem dX6_bookDifferences_0 : decode cX6_bookDifferences 0 = .ok (.aload_n 0, 1) := by decide +kernel
theorem dX6_bookDifferences_1 : decode cX6_bookDifferences 1 = .ok (.getfield 40, 3) := by decide +kernel
theorem dX6_bookDifferences_4 : decode cX6_bookDifferences 4 = .ok (.iload_n 1, 1) := by decide +kernel
theorem dX6_bookDifferences_5 : decode cX6_bookDifferences 5 = .ok (.invokevirtual 236, 3) := by decide +kernel
theorem dX6_bookDifferences_8 : decode cX6_bookDifferences 8 = .ok (.iconst 0, 1) := by decide +kernel
theorem dX6_bookDifferences_9 : decode cX6_bookDifferences 9 = .ok (.istore_n 2, 1) := by decide +kernel
theorem dX6_bookDifferences_10 : decode cX6_bookDifferences 10 = .ok (.iload_n 2, 1) := by decide +kernel
theorem dX6_bookDifferences_11 : decode cX6_bookDifferences 11 = .ok (.aload_n 0, 1) := by decide +kernel
theorem dX6_bookDifferences_12 : decode cX6_bookDifferences 12 = .ok (.getfield 55, 3) := by decide +kernel
theorem dX6_bookDifferences_15 : decode cX6_bookDifferences 15 = .ok (.if_icmp .gt 75, 3) := by decide +kernel
theorem dX6_bookDifferences_18 : decode cX6_bookDifferences 18 = .ok (.iconst 0, 1) := by decide +kernel
theorem dX6_bookDifferences_19 : decode cX6_bookDifferences 19 = .ok (.istore_n 3, 1) := by decide +kernel
theorem dX6_bookDifferences_20 : decode cX6_bookDifferences 20 = .ok (.iload_n 3, 1) := by decide +kernel
theorem dX6_bookDifferences_21 : decode cX6_bookDifferences 21 = .ok (.aload_n 0, 1) := by decide +kernel
theorem dX6_bookDifferences_22 : decode cX6_bookDifferences 22 = .ok (.getfield 51, 3) := by decide +kernel
theorem dX6_bookDifferences_25 : decode cX6_bookDifferences 25 = .ok (.if_icmp .ge 59, 3) := by decide +kernel
theorem dX6_bookDifferences_28 : decode cX6_bookDifferences 28 = .ok (.aload_n 0, 1) := by decide +kernel
theorem dX6_bookDifferences_29 : decode cX6_bookDifferences 29 = .ok (.getfield 11, 3) := by decide +kernel
theorem dX6_bookDifferences_32 : decode cX6_bookDifferences 32 = .ok (.iload_n 3, 1) := by decide +kernel
theorem dX6_bookDifferences_33 : decode cX6_bookDifferences 33 = .ok (.aaload, 1) := by decide +kernel
theorem dX6_bookDifferences_34 : decode cX6_bookDifferences 34 = .ok (.astore 4, 2) := by decide +kernel
theorem dX6_bookDifferences_36 : decode cX6_bookDifferences 36 = .ok (.aload 4, 2) := by decide +kernel
theorem dX6_bookDifferences_38 : decode cX6_bookDifferences 38 = .ok (.getfield 90, 3) := by decide +kernel
theorem dX6_bookDifferences_41 : decode cX6_bookDifferences 41 = .ok (.ifCond .eq 37, 3) := by decide +kernel
theorem dX6_bookDifferences_44 : decode cX6_bookDifferences 44 = .ok (.aload 4, 2) := by decide +kernel
theorem dX6_bookDifferences_46 : decode cX6_bookDifferences 46 = .ok (.iload_n 2, 1) := by decide +kernel
theorem dX6_bookDifferences_47 : decode cX6_bookDifferences 47 = .ok (.invokevirtual 239, 3) := by decide +kernel
theorem dX6_bookDifferences_50 : decode cX6_bookDifferences 50 = .ok (.ifCond .eq 28, 3) := by decide +kernel
theorem dX6_bookDifferences_53 : decode cX6_bookDifferences 53 = .ok (.aload_n 0, 1) := by decide +kernel
theorem dX6_bookDifferences_54 : decode cX6_bookDifferences 54 = .ok (.getfield 40, 3) := by decide +kernel
theorem dX6_bookDifferences_57 : decode cX6_bookDifferences 57 = .ok (.aload_n 0, 1) := by decide +kernel
theorem dX6_bookDifferences_58 : decode cX6_bookDifferences 58 = .ok (.getfield 55, 3) := by decide +kernel
theorem dX6_bookDifferences_61 : decode cX6_bookDifferences 61 = .ok (.iload_n 2, 1) := by decide +kernel
theorem dX6_bookDifferences_62 : decode cX6_bookDifferences 62 = .ok (.iload_n 3, 1) := by decide +kernel
theorem dX6_bookDifferences_63 : decode cX6_bookDifferences 63 = .ok (.aload 4, 2) := by decide +kernel
theorem dX6_bookDifferences_65 : decode cX6_bookDifferences 65 = .ok (.iload_n 2, 1) := by decide +kernel
theorem dX6_bookDifferences_66 : decode cX6_bookDifferences 66 = .ok (.invokevirtual 239, 3) := by decide +kernel
theorem dX6_bookDifferences_69 : decode cX6_bookDifferences 69 = .ok (.invokevirtual 242, 3) := by decide +kernel
theorem dX6_bookDifferences_72 : decode cX6_bookDifferences 72 = .ok (.aload 4, 2) := by decide +kernel
theorem dX6_bookDifferences_74 : decode cX6_bookDifferences 74 = .ok (.iload_n 2, 1) := by decide +kernel
theorem dX6_bookDifferences_75 : decode cX6_bookDifferences 75 = .ok (.invokevirtual 243, 3) := by decide +kernel
theorem dX6_bookDifferences_78 : decode cX6_bookDifferences 78 = .ok (.iinc 3 1, 3) := by decide +kernel
theorem dX6_bookDifferences_81 : decode cX6_bookDifferences 81 = .ok (.goto (-61), 3) := by decide +kernel
theorem dX6_bookDifferences_84 : decode cX6_bookDifferences 84 = .ok (.iinc 2 1, 3) := by decide +kernel
theorem dX6_bookDifferences_87 : decode cX6_bookDifferences 87 = .ok (.goto (-77), 3) := by decide +kernel
theorem dX6_bookDifferences_90 : decode cX6_bookDifferences 90 = .ok (.return_, 1) := by decide +kernel
theorem dX6_greatestDivisor_0 : decode cX6_greatestDivisor 0 = .ok (.lload_n 0, 1) := by decide +kernel
theorem dX6_greatestDivisor_1 : decode cX6_greatestDivisor 1 = .ok (.lstore 4, 2) := by decide +kernel
theorem dX6_greatestDivisor_3 : decode cX6_greatestDivisor 3 = .ok (.lload_n 2, 1) := by decide +kernel
theorem dX6_greatestDivisor_4 : decode cX6_greatestDivisor 4 = .ok (.lstore 6, 2) := by decide +kernel
theorem dX6_greatestDivisor_6 : decode cX6_greatestDivisor 6 = .ok (.iconst 0, 1) := by decide +kernel
theorem dX6_greatestDivisor_7 : decode cX6_greatestDivisor 7 = .ok (.istore 8, 2) := by decide +kernel
theorem dX6_greatestDivisor_9 : decode cX6_greatestDivisor 9 = .ok (.lload 6, 2) := by decide +kernel
theorem dX6_greatestDivisor_11 : decode cX6_greatestDivisor 11 = .ok (.lconst 0, 1) := by decide +kernel
theorem dX6_greatestDivisor_12 : decode cX6_greatestDivisor 12 = .ok (.lcmp, 1) := by decide +kernel
theorem dX6_greatestDivisor_13 : decode cX6_greatestDivisor 13 = .ok (.ifCond .eq 32, 3) := by decide +kernel
theorem dX6_greatestDivisor_16 : decode cX6_greatestDivisor 16 = .ok (.iload 8, 2) := by decide +kernel
theorem dX6_greatestDivisor_18 : decode cX6_greatestDivisor 18 = .ok (.sipush 200, 3) := by decide +kernel
theorem dX6_greatestDivisor_21 : decode cX6_greatestDivisor 21 = .ok (.if_icmp .ge 24, 3) := by decide +kernel
theorem dX6_greatestDivisor_24 : decode cX6_greatestDivisor 24 = .ok (.lload 4, 2) := by decide +kernel
theorem dX6_greatestDivisor_26 : decode cX6_greatestDivisor 26 = .ok (.lload 6, 2) := by decide +kernel
theorem dX6_greatestDivisor_28 : decode cX6_greatestDivisor 28 = .ok (.lrem, 1) := by decide +kernel
theorem dX6_greatestDivisor_29 : decode cX6_greatestDivisor 29 = .ok (.lstore 9, 2) := by decide +kernel
theorem dX6_greatestDivisor_31 : decode cX6_greatestDivisor 31 = .ok (.lload 6, 2) := by decide +kernel
theorem dX6_greatestDivisor_33 : decode cX6_greatestDivisor 33 = .ok (.lstore 4, 2) := by decide +kernel
theorem dX6_greatestDivisor_35 : decode cX6_greatestDivisor 35 = .ok (.lload 9, 2) := by decide +kernel
theorem dX6_greatestDivisor_37 : decode cX6_greatestDivisor 37 = .ok (.lstore 6, 2) := by decide +kernel
theorem dX6_greatestDivisor_39 : decode cX6_greatestDivisor 39 = .ok (.iinc 8 1, 3) := by decide +kernel
theorem dX6_greatestDivisor_42 : decode cX6_greatestDivisor 42 = .ok (.goto (-33), 3) := by decide +kernel
theorem dX6_greatestDivisor_45 : decode cX6_greatestDivisor 45 = .ok (.lconst 1, 1) := by decide +kernel
theorem dX6_greatestDivisor_46 : decode cX6_greatestDivisor 46 = .ok (.lload 4, 2) := by decide +kernel
theorem dX6_greatestDivisor_48 : decode cX6_greatestDivisor 48 = .ok (.invokestatic 246, 3) := by decide +kernel
theorem dX6_greatestDivisor_51 : decode cX6_greatestDivisor 51 = .ok (.lreturn, 1) := by decide +kernel
