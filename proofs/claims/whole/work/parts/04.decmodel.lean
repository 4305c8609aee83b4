theorem dX10_init_0 : decode cX10_init 0 = .ok (.aload_n 0, 1) := by decide +kernel
theorem dX10_init_1 : decode cX10_init 1 = .ok (.invokespecial 1, 3) := by decide +kernel
theorem dX10_init_4 : decode cX10_init 4 = .ok (.aload_n 0, 1) := by decide +kernel
theorem dX10_init_5 : decode cX10_init 5 = .ok (.sipush 540, 3) := by decide +kernel
theorem dX10_init_8 : decode cX10_init 8 = .ok (.newarray .int, 2) := by decide +kernel
theorem dX10_init_10 : decode cX10_init 10 = .ok (.putfield 7, 3) := by decide +kernel
theorem dX10_init_13 : decode cX10_init 13 = .ok (.aload_n 0, 1) := by decide +kernel
theorem dX10_init_14 : decode cX10_init 14 = .ok (.sipush 2700, 3) := by decide +kernel
theorem dX10_init_17 : decode cX10_init 17 = .ok (.newarray .int, 2) := by decide +kernel
theorem dX10_init_19 : decode cX10_init 19 = .ok (.putfield 13, 3) := by decide +kernel
theorem dX10_init_22 : decode cX10_init 22 = .ok (.aload_n 0, 1) := by decide +kernel
theorem dX10_init_23 : decode cX10_init 23 = .ok (.bipush 20, 2) := by decide +kernel
theorem dX10_init_25 : decode cX10_init 25 = .ok (.newarray .int, 2) := by decide +kernel
theorem dX10_init_27 : decode cX10_init 27 = .ok (.putfield 16, 3) := by decide +kernel
theorem dX10_init_30 : decode cX10_init 30 = .ok (.aload_n 0, 1) := by decide +kernel
theorem dX10_init_31 : decode cX10_init 31 = .ok (.bipush 20, 2) := by decide +kernel
theorem dX10_init_33 : decode cX10_init 33 = .ok (.newarray .int, 2) := by decide +kernel
theorem dX10_init_35 : decode cX10_init 35 = .ok (.putfield 19, 3) := by decide +kernel
theorem dX10_init_38 : decode cX10_init 38 = .ok (.aload_n 0, 1) := by decide +kernel
theorem dX10_init_39 : decode cX10_init 39 = .ok (.bipush 100, 2) := by decide +kernel
theorem dX10_init_41 : decode cX10_init 41 = .ok (.newarray .int, 2) := by decide +kernel
theorem dX10_init_43 : decode cX10_init 43 = .ok (.putfield 22, 3) := by decide +kernel
theorem dX10_init_46 : decode cX10_init 46 = .ok (.aload_n 0, 1) := by decide +kernel
theorem dX10_init_47 : decode cX10_init 47 = .ok (.bipush 20, 2) := by decide +kernel
theorem dX10_init_49 : decode cX10_init 49 = .ok (.newarray .int, 2) := by decide +kernel
theorem dX10_init_51 : decode cX10_init 51 = .ok (.putfield 25, 3) := by decide +kernel
theorem dX10_init_54 : decode cX10_init 54 = .ok (.aload_n 0, 1) := by decide +kernel
theorem dX10_init_55 : decode cX10_init 55 = .ok (.bipush 20, 2) := by decide +kernel
theorem dX10_init_57 : decode cX10_init 57 = .ok (.newarray .int, 2) := by decide +kernel
theorem dX10_init_59 : decode cX10_init 59 = .ok (.putfield 28, 3) := by decide +kernel
theorem dX10_init_62 : decode cX10_init 62 = .ok (.aload_n 0, 1) := by decide +kernel
theorem dX10_init_63 : decode cX10_init 63 = .ok (.bipush 20, 2) := by decide +kernel
theorem dX10_init_65 : decode cX10_init 65 = .ok (.newarray .int, 2) := by decide +kernel
theorem dX10_init_67 : decode cX10_init 67 = .ok (.putfield 31, 3) := by decide +kernel
theorem dX10_init_70 : decode cX10_init 70 = .ok (.aload_n 0, 1) := by decide +kernel
theorem dX10_init_71 : decode cX10_init 71 = .ok (.bipush 20, 2) := by decide +kernel
theorem dX10_init_73 : decode cX10_init 73 = .ok (.newarray .int, 2) := by decide +kernel
theorem dX10_init_75 : decode cX10_init 75 = .ok (.putfield 34, 3) := by decide +kernel
theorem dX10_init_78 : decode cX10_init 78 = .ok (.aload_n 0, 1) := by decide +kernel
theorem dX10_init_79 : decode cX10_init 79 = .ok (.bipush 20, 2) := by decide +kernel
theorem dX10_init_81 : decode cX10_init 81 = .ok (.newarray .int, 2) := by decide +kernel
theorem dX10_init_83 : decode cX10_init 83 = .ok (.putfield 37, 3) := by decide +kernel
theorem dX10_init_86 : decode cX10_init 86 = .ok (.aload_n 0, 1) := by decide +kernel
theorem dX10_init_87 : decode cX10_init 87 = .ok (.bipush 20, 2) := by decide +kernel
theorem dX10_init_89 : decode cX10_init 89 = .ok (.newarray .int, 2) := by decide +kernel
theorem dX10_init_91 : decode cX10_init 91 = .ok (.putfield 40, 3) := by decide +kernel
theorem dX10_init_94 : decode cX10_init 94 = .ok (.aload_n 0, 1) := by decide +kernel
theorem dX10_init_95 : decode cX10_init 95 = .ok (.bipush 20, 2) := by decide +kernel
theorem dX10_init_97 : decode cX10_init 97 = .ok (.newarray .int, 2) := by decide +kernel
theorem dX10_init_99 : decode cX10_init 99 = .ok (.putfield 43, 3) := by decide +kernel
theorem dX10_init_102 : decode cX10_init 102 = .ok (.aload_n 0, 1) := by decide +kernel
theorem dX10_init_103 : decode cX10_init 103 = .ok (.getfield 7, 3) := by decide +kernel
theorem dX10_init_106 : decode cX10_init 106 = .ok (.iconst 2, 1) := by decide +kernel
theorem dX10_init_107 : decode cX10_init 107 = .ok (.bipush 30, 2) := by decide +kernel
theorem dX10_init_109 : decode cX10_init 109 = .ok (.iastore, 1) := by decide +kernel
theorem dX10_init_110 : decode cX10_init 110 = .ok (.return_, 1) := by decide +kernel
theorem dX10_in_0 : decode cX10_in 0 = .ok (.iload_n 0, 1) := by decide +kernel
theorem dX10_in_1 : decode cX10_in 1 = .ok (.iload_n 1, 1) := by decide +kernel
theorem dX10_in_2 : decode cX10_in 2 = .ok (.if_icmp .lt 12, 3) := by decide +kernel
theorem dX10_in_5 : decode cX10_in 5 = .ok (.iload_n 0, 1) := by decide +kernel
theorem dX10_in_6 : decode cX10_in 6 = .ok (.iload_n 2, 1) := by decide +kernel
theorem dX10_in_7 : decode cX10_in 7 = .ok (.if_icmp .gt 7, 3) := by decide +kernel
theorem dX10_in_10 : decode cX10_in 10 = .ok (.iconst 1, 1) := by decide +kernel
theorem dX10_in_11 : decode cX10_in 11 = .ok (.goto 4, 3) := by decide +kernel
theorem dX10_in_14 : decode cX10_in 14 = .ok (.iconst 0, 1) := by decide +kernel
theorem dX10_in_15 : decode cX10_in 15 = .ok (.ireturn, 1) := by decide +kernel
theorem dX10_act_0 : decode cX10_act 0 = .ok (.aload_n 0, 1) := by decide +kernel
theorem dX10_act_1 : decode cX10_act 1 = .ok (.getfield 46, 3) := by decide +kernel
theorem dX10_act_4 : decode cX10_act 4 = .ok (.iconst 5, 1) := by decide +kernel
theorem dX10_act_5 : decode cX10_act 5 = .ok (.if_icmp .ne 44, 3) := by decide +kernel
theorem dX10_act_8 : decode cX10_act 8 = .ok (.iconst 0, 1) := by decide +kernel
theorem dX10_act_9 : decode cX10_act 9 = .ok (.istore_n 1, 1) := by decide +kernel
theorem dX10_act_10 : decode cX10_act 10 = .ok (.iload_n 1, 1) := by decide +kernel
theorem dX10_act_11 : decode cX10_act 11 = .ok (.sipush 2160, 3) := by decide +kernel
theorem dX10_act_14 : decode cX10_act 14 = .ok (.if_icmp .ge 25, 3) := by decide +kernel
theorem dX10_act_17 : decode cX10_act 17 = .ok (.aload_n 0, 1) := by decide +kernel
theorem dX10_act_18 : decode cX10_act 18 = .ok (.getfield 13, 3) := by decide +kernel
theorem dX10_act_21 : decode cX10_act 21 = .ok (.iload_n 1, 1) := by decide +kernel
theorem dX10_act_22 : decode cX10_act 22 = .ok (.aload_n 0, 1) := by decide +kernel
theorem dX10_act_23 : decode cX10_act 23 = .ok (.getfield 13, 3) := by decide +kernel
theorem dX10_act_26 : decode cX10_act 26 = .ok (.iload_n 1, 1) := by decide +kernel
theorem dX10_act_27 : decode cX10_act 27 = .ok (.sipush 540, 3) := by decide +kernel
theorem dX10_act_30 : decode cX10_act 30 = .ok (.iadd, 1) := by decide +kernel
theorem dX10_act_31 : decode cX10_act 31 = .ok (.iaload, 1) := by decide +kernel
theorem dX10_act_32 : decode cX10_act 32 = .ok (.iastore, 1) := by decide +kernel
theorem dX10_act_33 : decode cX10_act 33 = .ok (.iinc 1 1, 3) := by decide +kernel
theorem dX10_act_36 : decode cX10_act 36 = .ok (.goto (-26), 3) := by decide +kernel
theorem dX10_act_39 : decode cX10_act 39 = .ok (.aload_n 0, 1) := by decide +kernel
theorem dX10_act_40 : decode cX10_act 40 = .ok (.dup, 1) := by decide +kernel
theorem dX10_act_41 : decode cX10_act 41 = .ok (.getfield 46, 3) := by decide +kernel
theorem dX10_act_44 : decode cX10_act 44 = .ok (.iconst 1, 1) := by decide +kernel
theorem dX10_act_45 : decode cX10_act 45 = .ok (.isub, 1) := by decide +kernel
theorem dX10_act_46 : decode cX10_act 46 = .ok (.putfield 46, 3) := by decide +kernel
theorem dX10_act_49 : decode cX10_act 49 = .ok (.iconst 0, 1) := by decide +kernel
theorem dX10_act_50 : decode cX10_act 50 = .ok (.istore_n 1, 1) := by decide +kernel
theorem dX10_act_51 : decode cX10_act 51 = .ok (.iload_n 1, 1) := by decide +kernel
theorem dX10_act_52 : decode cX10_act 52 = .ok (.sipush 540, 3) := by decide +kernel
theorem dX10_act_55 : decode cX10_act 55 = .ok (.if_icmp .ge 30, 3) := by decide +kernel
theorem dX10_act_58 : decode cX10_act 58 = .ok (.aload_n 0, 1) := by decide +kernel
theorem dX10_act_59 : decode cX10_act 59 = .ok (.getfield 13, 3) := by decide +kernel
theorem dX10_act_62 : decode cX10_act 62 = .ok (.sipush 540, 3) := by decide +kernel
theorem dX10_act_65 : decode cX10_act 65 = .ok (.aload_n 0, 1) := by decide +kernel
theorem dX10_act_66 : decode cX10_act 66 = .ok (.getfield 46, 3) := by decide +kernel
theorem dX10_act_69 : decode cX10_act 69 = .ok (.imul, 1) := by decide +kernel
theorem dX10_act_70 : decode cX10_act 70 = .ok (.iload_n 1, 1) := by decide +kernel
theorem dX10_act_71 : decode cX10_act 71 = .ok (.iadd, 1) := by decide +kernel
theorem dX10_act_72 : decode cX10_act 72 = .ok (.aload_n 0, 1) := by decide +kernel
theorem dX10_act_73 : decode cX10_act 73 = .ok (.getfield 7, 3) := by decide +kernel
theorem dX10_act_76 : decode cX10_act 76 = .ok (.iload_n 1, 1) := by decide +kernel
theorem dX10_act_77 : decode cX10_act 77 = .ok (.iaload, 1) := by decide +kernel
theorem dX10_act_78 : decode cX10_act 78 = .ok (.iastore, 1) := by decide +kernel
theorem dX10_act_79 : decode cX10_act 79 = .ok (.iinc 1 1, 3) := by decide +kernel
theorem dX10_act_82 : decode cX10_act 82 = .ok (.goto (-31), 3) := by decide +kernel
theorem dX10_act_85 : decode cX10_act 85 = .ok (.aload_n 0, 1) := by decide +kernel
theorem dX10_act_86 : decode cX10_act 86 = .ok (.dup, 1) := by decide +kernel
theorem dX10_act_87 : decode cX10_act 87 = .ok (.getfield 46, 3) := by decide +kernel
theorem dX10_act_90 : decode cX10_act 90 = .ok (.iconst 1, 1) := by decide +kernel
theorem dX10_act_91 : decode cX10_act 91 = .ok (.iadd, 1) := by decide +kernel
theorem dX10_act_92 : decode cX10_act 92 = .ok (.putfield 46, 3) := by decide +kernel
theorem dX10_act_95 : decode cX10_act 95 = .ok (.return_, 1) := by decide +kernel
theorem dX10_of_0 : decode cX10_of 0 = .ok (.aload_n 0, 1) := by decide +kernel
theorem dX10_of_1 : decode cX10_of 1 = .ok (.getfield 7, 3) := by decide +kernel
theorem dX10_of_4 : decode cX10_of 4 = .ok (.bipush 10, 2) := by decide +kernel
theorem dX10_of_6 : decode cX10_of 6 = .ok (.iconst 5, 1) := by decide +kernel
theorem dX10_of_7 : decode cX10_of 7 = .ok (.iload_n 1, 1) := by decide +kernel
theorem dX10_of_8 : decode cX10_of 8 = .ok (.imul, 1) := by decide +kernel
theorem dX10_of_9 : decode cX10_of 9 = .ok (.iadd, 1) := by decide +kernel
theorem dX10_of_10 : decode cX10_of 10 = .ok (.iload_n 2, 1) := by decide +kernel
theorem dX10_of_11 : decode cX10_of 11 = .ok (.iadd, 1) := by decide +kernel
theorem dX10_of_12 : decode cX10_of 12 = .ok (.iaload, 1) := by decide +kernel
theorem dX10_of_13 : decode cX10_of 13 = .ok (.ireturn, 1) := by decide +kernel
theorem dX10_isQuestion_0 : decode cX10_isQuestion 0 = .ok (.iload_n 1, 1) := by decide +kernel
theorem dX10_isQuestion_1 : decode cX10_isQuestion 1 = .ok (.iconst 0, 1) := by decide +kernel
theorem dX10_isQuestion_2 : decode cX10_isQuestion 2 = .ok (.aload_n 0, 1) := by decide +kernel
theorem dX10_isQuestion_3 : decode cX10_isQuestion 3 = .ok (.getfield 7, 3) := by decide +kernel
theorem dX10_isQuestion_6 : decode cX10_isQuestion 6 = .ok (.iconst 0, 1) := by decide +kernel
theorem dX10_isQuestion_7 : decode cX10_isQuestion 7 = .ok (.iaload, 1) := by decide +kernel
theorem dX10_isQuestion_8 : decode cX10_isQuestion 8 = .ok (.iconst 1, 1) := by decide +kernel
theorem dX10_isQuestion_9 : decode cX10_isQuestion 9 = .ok (.isub, 1) := by decide +kernel
theorem dX10_isQuestion_10 : decode cX10_isQuestion 10 = .ok (.invokestatic 50, 3) := by decide +kernel
theorem dX10_isQuestion_13 : decode cX10_isQuestion 13 = .ok (.ireturn, 1) := by decide +kernel
theorem dX10_isVersion_0 : decode cX10_isVersion 0 = .ok (.iload_n 1, 1) := by decide +kernel
theorem dX10_isVersion_1 : decode cX10_isVersion 1 = .ok (.iconst 0, 1) := by decide +kernel
theorem dX10_isVersion_2 : decode cX10_isVersion 2 = .ok (.aload_n 0, 1) := by decide +kernel
theorem dX10_isVersion_3 : decode cX10_isVersion 3 = .ok (.getfield 7, 3) := by decide +kernel
theorem dX10_isVersion_6 : decode cX10_isVersion 6 = .ok (.iconst 1, 1) := by decide +kernel
theorem dX10_isVersion_7 : decode cX10_isVersion 7 = .ok (.iaload, 1) := by decide +kernel
theorem dX10_isVersion_8 : decode cX10_isVersion 8 = .ok (.iconst 1, 1) := by decide +kernel
theorem dX10_isVersion_9 : decode cX10_isVersion 9 = .ok (.isub, 1) := by decide +kernel
theorem dX10_isVersion_10 : decode cX10_isVersion 10 = .ok (.invokestatic 50, 3) := by decide +kernel
theorem dX10_isVersion_13 : decode cX10_isVersion 13 = .ok (.ireturn, 1) := by decide +kernel
theorem dX10_isSheet_0 : decode cX10_isSheet 0 = .ok (.iload_n 1, 1) := by decide +kernel
theorem dX10_isSheet_1 : decode cX10_isSheet 1 = .ok (.iconst 0, 1) := by decide +kernel
theorem dX10_isSheet_2 : decode cX10_isSheet 2 = .ok (.aload_n 0, 1) := by decide +kernel
theorem dX10_isSheet_3 : decode cX10_isSheet 3 = .ok (.getfield 7, 3) := by decide +kernel
theorem dX10_isSheet_6 : decode cX10_isSheet 6 = .ok (.iconst 3, 1) := by decide +kernel
theorem dX10_isSheet_7 : decode cX10_isSheet 7 = .ok (.iaload, 1) := by decide +kernel
theorem dX10_isSheet_8 : decode cX10_isSheet 8 = .ok (.iconst 1, 1) := by decide +kernel
theorem dX10_isSheet_9 : decode cX10_isSheet 9 = .ok (.isub, 1) := by decide +kernel
theorem dX10_isSheet_10 : decode cX10_isSheet 10 = .ok (.invokestatic 50, 3) := by decide +kernel
theorem dX10_isSheet_13 : decode cX10_isSheet 13 = .ok (.ireturn, 1) := by decide +kernel
theorem dX10_add_0 : decode cX10_add 0 = .ok (.iload_n 1, 1) := by decide +kernel
theorem dX10_add_1 : decode cX10_add 1 = .ok (.iconst 1, 1) := by decide +kernel
theorem dX10_add_2 : decode cX10_add 2 = .ok (.bipush 9, 2) := by decide +kernel
theorem dX10_add_4 : decode cX10_add 4 = .ok (.invokestatic 50, 3) := by decide +kernel
theorem dX10_add_7 : decode cX10_add 7 = .ok (.ifCond .eq 47, 3) := by decide +kernel
theorem dX10_add_10 : decode cX10_add 10 = .ok (.iload_n 2, 1) := by decide +kernel
theorem dX10_add_11 : decode cX10_add 11 = .ok (.iconst 2, 1) := by decide +kernel
theorem dX10_add_12 : decode cX10_add 12 = .ok (.iconst 5, 1) := by decide +kernel
theorem dX10_add_13 : decode cX10_add 13 = .ok (.invokestatic 50, 3) := by decide +kernel
theorem dX10_add_16 : decode cX10_add 16 = .ok (.ifCond .eq 38, 3) := by decide +kernel
theorem dX10_add_19 : decode cX10_add 19 = .ok (.iload_n 3, 1) := by decide +kernel
theorem dX10_add_20 : decode cX10_add 20 = .ok (.iconst 0, 1) := by decide +kernel
theorem dX10_add_21 : decode cX10_add 21 = .ok (.iload_n 2, 1) := by decide +kernel
theorem dX10_add_22 : decode cX10_add 22 = .ok (.iconst 1, 1) := by decide +kernel
theorem dX10_add_23 : decode cX10_add 23 = .ok (.isub, 1) := by decide +kernel
theorem dX10_add_24 : decode cX10_add 24 = .ok (.invokestatic 50, 3) := by decide +kernel
theorem dX10_add_27 : decode cX10_add 27 = .ok (.ifCond .eq 27, 3) := by decide +kernel
theorem dX10_add_30 : decode cX10_add 30 = .ok (.iload 4, 2) := by decide +kernel
theorem dX10_add_32 : decode cX10_add 32 = .ok (.iconst 0, 1) := by decide +kernel
theorem dX10_add_33 : decode cX10_add 33 = .ok (.iconst 1, 1) := by decide +kernel
theorem dX10_add_34 : decode cX10_add 34 = .ok (.iload_n 2, 1) := by decide +kernel
theorem dX10_add_35 : decode cX10_add 35 = .ok (.ishl, 1) := by decide +kernel
theorem dX10_add_36 : decode cX10_add 36 = .ok (.iconst 1, 1) := by decide +kernel
theorem dX10_add_37 : decode cX10_add 37 = .ok (.isub, 1) := by decide +kernel
theorem dX10_add_38 : decode cX10_add 38 = .ok (.invokestatic 50, 3) := by decide +kernel
theorem dX10_add_41 : decode cX10_add 41 = .ok (.ifCond .eq 13, 3) := by decide +kernel
theorem dX10_add_44 : decode cX10_add 44 = .ok (.iload 5, 2) := by decide +kernel
theorem dX10_add_46 : decode cX10_add 46 = .ok (.iconst 0, 1) := by decide +kernel
theorem dX10_add_47 : decode cX10_add 47 = .ok (.iconst 5, 1) := by decide +kernel
theorem dX10_add_48 : decode cX10_add 48 = .ok (.invokestatic 50, 3) := by decide +kernel
theorem dX10_add_51 : decode cX10_add 51 = .ok (.ifCond .ne 7, 3) := by decide +kernel
theorem dX10_add_54 : decode cX10_add 54 = .ok (.sipush (-1001), 3) := by decide +kernel
theorem dX10_add_57 : decode cX10_add 57 = .ok (.ireturn, 1) := by decide +kernel
theorem dX10_add_58 : decode cX10_add 58 = .ok (.aload_n 0, 1) := by decide +kernel
theorem dX10_add_59 : decode cX10_add 59 = .ok (.getfield 7, 3) := by decide +kernel
theorem dX10_add_62 : decode cX10_add 62 = .ok (.iconst 3, 1) := by decide +kernel
theorem dX10_add_63 : decode cX10_add 63 = .ok (.iaload, 1) := by decide +kernel
theorem dX10_add_64 : decode cX10_add 64 = .ok (.ifCond .le 7, 3) := by decide +kernel
theorem dX10_add_67 : decode cX10_add 67 = .ok (.sipush (-1002), 3) := by decide +kernel
theorem dX10_add_70 : decode cX10_add 70 = .ok (.ireturn, 1) := by decide +kernel
theorem dX10_add_71 : decode cX10_add 71 = .ok (.aload_n 0, 1) := by decide +kernel
theorem dX10_add_72 : decode cX10_add 72 = .ok (.getfield 7, 3) := by decide +kernel
theorem dX10_add_75 : decode cX10_add 75 = .ok (.iconst 0, 1) := by decide +kernel
theorem dX10_add_76 : decode cX10_add 76 = .ok (.iaload, 1) := by decide +kernel
theorem dX10_add_77 : decode cX10_add 77 = .ok (.bipush 20, 2) := by decide +kernel
theorem dX10_add_79 : decode cX10_add 79 = .ok (.if_icmp .ne 7, 3) := by decide +kernel
theorem dX10_add_82 : decode cX10_add 82 = .ok (.sipush (-1003), 3) := by decide +kernel
theorem dX10_add_85 : decode cX10_add 85 = .ok (.ireturn, 1) := by decide +kernel
theorem dX10_add_86 : decode cX10_add 86 = .ok (.aload_n 0, 1) := by decide +kernel
theorem dX10_add_87 : decode cX10_add 87 = .ok (.invokevirtual 54, 3) := by decide +kernel
theorem dX10_add_90 : decode cX10_add 90 = .ok (.bipush 10, 2) := by decide +kernel
theorem dX10_add_92 : decode cX10_add 92 = .ok (.iconst 5, 1) := by decide +kernel
theorem dX10_add_93 : decode cX10_add 93 = .ok (.aload_n 0, 1) := by decide +kernel
theorem dX10_add_94 : decode cX10_add 94 = .ok (.getfield 7, 3) := by decide +kernel
theorem dX10_add_97 : decode cX10_add 97 = .ok (.iconst 0, 1) := by decide +kernel
theorem dX10_add_98 : decode cX10_add 98 = .ok (.iaload, 1) := by decide +kernel
theorem dX10_add_99 : decode cX10_add 99 = .ok (.imul, 1) := by decide +kernel
theorem dX10_add_100 : decode cX10_add 100 = .ok (.iadd, 1) := by decide +kernel
theorem dX10_add_101 : decode cX10_add 101 = .ok (.istore 6, 2) := by decide +kernel
theorem dX10_add_103 : decode cX10_add 103 = .ok (.aload_n 0, 1) := by decide +kernel
theorem dX10_add_104 : decode cX10_add 104 = .ok (.getfield 7, 3) := by decide +kernel
theorem dX10_add_107 : decode cX10_add 107 = .ok (.iload 6, 2) := by decide +kernel
theorem dX10_add_109 : decode cX10_add 109 = .ok (.iload_n 1, 1) := by decide +kernel
theorem dX10_add_110 : decode cX10_add 110 = .ok (.iastore, 1) := by decide +kernel
theorem dX10_add_111 : decode cX10_add 111 = .ok (.aload_n 0, 1) := by decide +kernel
theorem dX10_add_112 : decode cX10_add 112 = .ok (.getfield 7, 3) := by decide +kernel
theorem dX10_add_115 : decode cX10_add 115 = .ok (.iload 6, 2) := by decide +kernel
theorem dX10_add_117 : decode cX10_add 117 = .ok (.iconst 1, 1) := by decide +kernel
theorem dX10_add_118 : decode cX10_add 118 = .ok (.iadd, 1) := by decide +kernel
theorem dX10_add_119 : decode cX10_add 119 = .ok (.iload_n 3, 1) := by decide +kernel
theorem dX10_add_120 : decode cX10_add 120 = .ok (.iastore, 1) := by decide +kernel
theorem dX10_add_121 : decode cX10_add 121 = .ok (.aload_n 0, 1) := by decide +kernel
theorem dX10_add_122 : decode cX10_add 122 = .ok (.getfield 7, 3) := by decide +kernel
theorem dX10_add_125 : decode cX10_add 125 = .ok (.iload 6, 2) := by decide +kernel
theorem dX10_add_127 : decode cX10_add 127 = .ok (.iconst 2, 1) := by decide +kernel
theorem dX10_add_128 : decode cX10_add 128 = .ok (.iadd, 1) := by decide +kernel
theorem dX10_add_129 : decode cX10_add 129 = .ok (.iload 4, 2) := by decide +kernel
theorem dX10_add_131 : decode cX10_add 131 = .ok (.iastore, 1) := by decide +kernel
theorem dX10_add_132 : decode cX10_add 132 = .ok (.aload_n 0, 1) := by decide +kernel
theorem dX10_add_133 : decode cX10_add 133 = .ok (.getfield 7, 3) := by decide +kernel
theorem dX10_add_136 : decode cX10_add 136 = .ok (.iload 6, 2) := by decide +kernel
theorem dX10_add_138 : decode cX10_add 138 = .ok (.iconst 3, 1) := by decide +kernel
theorem dX10_add_139 : decode cX10_add 139 = .ok (.iadd, 1) := by decide +kernel
theorem dX10_add_140 : decode cX10_add 140 = .ok (.iload 5, 2) := by decide +kernel
theorem dX10_add_142 : decode cX10_add 142 = .ok (.iastore, 1) := by decide +kernel
theorem dX10_add_143 : decode cX10_add 143 = .ok (.aload_n 0, 1) := by decide +kernel
theorem dX10_add_144 : decode cX10_add 144 = .ok (.getfield 7, 3) := by decide +kernel
theorem dX10_add_147 : decode cX10_add 147 = .ok (.iload 6, 2) := by decide +kernel
theorem dX10_add_149 : decode cX10_add 149 = .ok (.iconst 4, 1) := by decide +kernel
theorem dX10_add_150 : decode cX10_add 150 = .ok (.iadd, 1) := by decide +kernel
theorem dX10_add_151 : decode cX10_add 151 = .ok (.iload_n 2, 1) := by decide +kernel
theorem dX10_add_152 : decode cX10_add 152 = .ok (.iastore, 1) := by decide +kernel
theorem dX10_add_153 : decode cX10_add 153 = .ok (.aload_n 0, 1) := by decide +kernel
theorem dX10_add_154 : decode cX10_add 154 = .ok (.getfield 7, 3) := by decide +kernel
theorem dX10_add_157 : decode cX10_add 157 = .ok (.iconst 0, 1) := by decide +kernel
theorem dX10_add_158 : decode cX10_add 158 = .ok (.dup2, 1) := by decide +kernel
theorem dX10_add_159 : decode cX10_add 159 = .ok (.iaload, 1) := by decide +kernel
theorem dX10_add_160 : decode cX10_add 160 = .ok (.iconst 1, 1) := by decide +kernel
theorem dX10_add_161 : decode cX10_add 161 = .ok (.iadd, 1) := by decide +kernel
theorem dX10_add_162 : decode cX10_add 162 = .ok (.iastore, 1) := by decide +kernel
theorem dX10_add_163 : decode cX10_add 163 = .ok (.aload_n 0, 1) := by decide +kernel
theorem dX10_add_164 : decode cX10_add 164 = .ok (.getfield 7, 3) := by decide +kernel
theorem dX10_add_167 : decode cX10_add 167 = .ok (.iconst 0, 1) := by decide +kernel
theorem dX10_add_168 : decode cX10_add 168 = .ok (.iaload, 1) := by decide +kernel
theorem dX10_add_169 : decode cX10_add 169 = .ok (.iconst 1, 1) := by decide +kernel
theorem dX10_add_170 : decode cX10_add 170 = .ok (.isub, 1) := by decide +kernel
theorem dX10_add_171 : decode cX10_add 171 = .ok (.ireturn, 1) := by decide +kernel
theorem dX10_remove_0 : decode cX10_remove 0 = .ok (.aload_n 0, 1) := by decide +kernel
theorem dX10_remove_1 : decode cX10_remove 1 = .ok (.iload_n 1, 1) := by decide +kernel
theorem dX10_remove_2 : decode cX10_remove 2 = .ok (.invokevirtual 57, 3) := by decide +kernel
theorem dX10_remove_5 : decode cX10_remove 5 = .ok (.ifCond .ne 7, 3) := by decide +kernel
theorem dX10_remove_8 : decode cX10_remove 8 = .ok (.sipush (-1001), 3) := by decide +kernel
theorem dX10_remove_11 : decode cX10_remove 11 = .ok (.ireturn, 1) := by decide +kernel
theorem dX10_remove_12 : decode cX10_remove 12 = .ok (.aload_n 0, 1) := by decide +kernel
theorem dX10_remove_13 : decode cX10_remove 13 = .ok (.getfield 7, 3) := by decide +kernel
theorem dX10_remove_16 : decode cX10_remove 16 = .ok (.iconst 3, 1) := by decide +kernel
theorem dX10_remove_17 : decode cX10_remove 17 = .ok (.iaload, 1) := by decide +kernel
theorem dX10_remove_18 : decode cX10_remove 18 = .ok (.ifCond .le 7, 3) := by decide +kernel
theorem dX10_remove_21 : decode cX10_remove 21 = .ok (.sipush (-1002), 3) := by decide +kernel
theorem dX10_remove_24 : decode cX10_remove 24 = .ok (.ireturn, 1) := by decide +kernel
theorem dX10_remove_25 : decode cX10_remove 25 = .ok (.aload_n 0, 1) := by decide +kernel
theorem dX10_remove_26 : decode cX10_remove 26 = .ok (.invokevirtual 54, 3) := by decide +kernel
theorem dX10_remove_29 : decode cX10_remove 29 = .ok (.aload_n 0, 1) := by decide +kernel
theorem dX10_remove_30 : decode cX10_remove 30 = .ok (.getfield 7, 3) := by decide +kernel
theorem dX10_remove_33 : decode cX10_remove 33 = .ok (.iconst 0, 1) := by decide +kernel
theorem dX10_remove_34 : decode cX10_remove 34 = .ok (.dup2, 1) := by decide +kernel
theorem dX10_remove_35 : decode cX10_remove 35 = .ok (.iaload, 1) := by decide +kernel
theorem dX10_remove_36 : decode cX10_remove 36 = .ok (.iconst 1, 1) := by decide +kernel
theorem dX10_remove_37 : decode cX10_remove 37 = .ok (.isub, 1) := by decide +kernel
theorem dX10_remove_38 : decode cX10_remove 38 = .ok (.iastore, 1) := by decide +kernel
theorem dX10_remove_39 : decode cX10_remove 39 = .ok (.bipush 10, 2) := by decide +kernel
theorem dX10_remove_41 : decode cX10_remove 41 = .ok (.iconst 5, 1) := by decide +kernel
theorem dX10_remove_42 : decode cX10_remove 42 = .ok (.iload_n 1, 1) := by decide +kernel
theorem dX10_remove_43 : decode cX10_remove 43 = .ok (.imul, 1) := by decide +kernel
theorem dX10_remove_44 : decode cX10_remove 44 = .ok (.iadd, 1) := by decide +kernel
theorem dX10_remove_45 : decode cX10_remove 45 = .ok (.istore_n 2, 1) := by decide +kernel
theorem dX10_remove_46 : decode cX10_remove 46 = .ok (.iload_n 2, 1) := by decide +kernel
theorem dX10_remove_47 : decode cX10_remove 47 = .ok (.bipush 10, 2) := by decide +kernel
theorem dX10_remove_49 : decode cX10_remove 49 = .ok (.iconst 5, 1) := by decide +kernel
theorem dX10_remove_50 : decode cX10_remove 50 = .ok (.aload_n 0, 1) := by decide +kernel
theorem dX10_remove_51 : decode cX10_remove 51 = .ok (.getfield 7, 3) := by decide +kernel
theorem dX10_remove_54 : decode cX10_remove 54 = .ok (.iconst 0, 1) := by decide +kernel
theorem dX10_remove_55 : decode cX10_remove 55 = .ok (.iaload, 1) := by decide +kernel
theorem dX10_remove_56 : decode cX10_remove 56 = .ok (.imul, 1) := by decide +kernel
theorem dX10_remove_57 : decode cX10_remove 57 = .ok (.iadd, 1) := by decide +kernel
theorem dX10_remove_58 : decode cX10_remove 58 = .ok (.if_icmp .ge 23, 3) := by decide +kernel
theorem dX10_remove_61 : decode cX10_remove 61 = .ok (.aload_n 0, 1) := by decide +kernel
theorem dX10_remove_62 : decode cX10_remove 62 = .ok (.getfield 7, 3) := by decide +kernel
theorem dX10_remove_65 : decode cX10_remove 65 = .ok (.iload_n 2, 1) := by decide +kernel
theorem dX10_remove_66 : decode cX10_remove 66 = .ok (.aload_n 0, 1) := by decide +kernel
theorem dX10_remove_67 : decode cX10_remove 67 = .ok (.getfield 7, 3) := by decide +kernel
theorem dX10_remove_70 : decode cX10_remove 70 = .ok (.iload_n 2, 1) := by decide +kernel
theorem dX10_remove_71 : decode cX10_remove 71 = .ok (.iconst 5, 1) := by decide +kernel
theorem dX10_remove_72 : decode cX10_remove 72 = .ok (.iadd, 1) := by decide +kernel
theorem dX10_remove_73 : decode cX10_remove 73 = .ok (.iaload, 1) := by decide +kernel
theorem dX10_remove_74 : decode cX10_remove 74 = .ok (.iastore, 1) := by decide +kernel
theorem dX10_remove_75 : decode cX10_remove 75 = .ok (.iinc 2 1, 3) := by decide +kernel
theorem dX10_remove_78 : decode cX10_remove 78 = .ok (.goto (-32), 3) := by decide +kernel
theorem dX10_remove_81 : decode cX10_remove 81 = .ok (.aload_n 0, 1) := by decide +kernel
theorem dX10_remove_82 : decode cX10_remove 82 = .ok (.getfield 7, 3) := by decide +kernel
theorem dX10_remove_85 : decode cX10_remove 85 = .ok (.iconst 0, 1) := by decide +kernel
theorem dX10_remove_86 : decode cX10_remove 86 = .ok (.iaload, 1) := by decide +kernel
theorem dX10_remove_87 : decode cX10_remove 87 = .ok (.ireturn, 1) := by decide +kernel
theorem dX10_isIn_0 : decode cX10_isIn 0 = .ok (.iload_n 2, 1) := by decide +kernel
theorem dX10_isIn_1 : decode cX10_isIn 1 = .ok (.tableswitch 65 0 2 #[27, 35, 49], 27) := by decide +kernel
theorem dX10_isIn_28 : decode cX10_isIn 28 = .ok (.iload_n 3, 1) := by decide +kernel
theorem dX10_isIn_29 : decode cX10_isIn 29 = .ok (.iconst 1, 1) := by decide +kernel
theorem dX10_isIn_30 : decode cX10_isIn 30 = .ok (.bipush 9, 2) := by decide +kernel
theorem dX10_isIn_32 : decode cX10_isIn 32 = .ok (.invokestatic 50, 3) := by decide +kernel
theorem dX10_isIn_35 : decode cX10_isIn 35 = .ok (.ireturn, 1) := by decide +kernel
theorem dX10_isIn_36 : decode cX10_isIn 36 = .ok (.iload_n 3, 1) := by decide +kernel
theorem dX10_isIn_37 : decode cX10_isIn 37 = .ok (.iconst 0, 1) := by decide +kernel
theorem dX10_isIn_38 : decode cX10_isIn 38 = .ok (.aload_n 0, 1) := by decide +kernel
theorem dX10_isIn_39 : decode cX10_isIn 39 = .ok (.iload_n 1, 1) := by decide +kernel
theorem dX10_isIn_40 : decode cX10_isIn 40 = .ok (.iconst 4, 1) := by decide +kernel
theorem dX10_isIn_41 : decode cX10_isIn 41 = .ok (.invokevirtual 61, 3) := by decide +kernel
theorem dX10_isIn_44 : decode cX10_isIn 44 = .ok (.iconst 1, 1) := by decide +kernel
theorem dX10_isIn_45 : decode cX10_isIn 45 = .ok (.isub, 1) := by decide +kernel
theorem dX10_isIn_46 : decode cX10_isIn 46 = .ok (.invokestatic 50, 3) := by decide +kernel
theorem dX10_isIn_49 : decode cX10_isIn 49 = .ok (.ireturn, 1) := by decide +kernel
theorem dX10_isIn_50 : decode cX10_isIn 50 = .ok (.iload_n 3, 1) := by decide +kernel
theorem dX10_isIn_51 : decode cX10_isIn 51 = .ok (.iconst 0, 1) := by decide +kernel
theorem dX10_isIn_52 : decode cX10_isIn 52 = .ok (.iconst 1, 1) := by decide +kernel
theorem dX10_isIn_53 : decode cX10_isIn 53 = .ok (.aload_n 0, 1) := by decide +kernel
theorem dX10_isIn_54 : decode cX10_isIn 54 = .ok (.iload_n 1, 1) := by decide +kernel
theorem dX10_isIn_55 : decode cX10_isIn 55 = .ok (.iconst 4, 1) := by decide +kernel
theorem dX10_isIn_56 : decode cX10_isIn 56 = .ok (.invokevirtual 61, 3) := by decide +kernel
theorem dX10_isIn_59 : decode cX10_isIn 59 = .ok (.ishl, 1) := by decide +kernel
theorem dX10_isIn_60 : decode cX10_isIn 60 = .ok (.iconst 1, 1) := by decide +kernel
theorem dX10_isIn_61 : decode cX10_isIn 61 = .ok (.isub, 1) := by decide +kernel
theorem dX10_isIn_62 : decode cX10_isIn 62 = .ok (.invokestatic 50, 3) := by decide +kernel
theorem dX10_isIn_65 : decode cX10_isIn 65 = .ok (.ireturn, 1) := by decide +kernel
theorem dX10_isIn_66 : decode cX10_isIn 66 = .ok (.iload_n 2, 1) := by decide +kernel
theorem dX10_isIn_67 : decode cX10_isIn 67 = .ok (.iconst 3, 1) := by decide +kernel
theorem dX10_isIn_68 : decode cX10_isIn 68 = .ok (.if_icmp .ne 16, 3) := by decide +kernel
theorem dX10_isIn_71 : decode cX10_isIn 71 = .ok (.iload_n 3, 1) := by decide +kernel
theorem dX10_isIn_72 : decode cX10_isIn 72 = .ok (.iconst 0, 1) := by decide +kernel
theorem dX10_isIn_73 : decode cX10_isIn 73 = .ok (.iconst 5, 1) := by decide +kernel
theorem dX10_isIn_74 : decode cX10_isIn 74 = .ok (.invokestatic 50, 3) := by decide +kernel
theorem dX10_isIn_77 : decode cX10_isIn 77 = .ok (.ifCond .eq 7, 3) := by decide +kernel
theorem dX10_isIn_80 : decode cX10_isIn 80 = .ok (.iconst 1, 1) := by decide +kernel
theorem dX10_isIn_81 : decode cX10_isIn 81 = .ok (.goto 4, 3) := by decide +kernel
theorem dX10_isIn_84 : decode cX10_isIn 84 = .ok (.iconst 0, 1) := by decide +kernel
theorem dX10_isIn_85 : decode cX10_isIn 85 = .ok (.ireturn, 1) := by decide +kernel
theorem dX10_sets_0 : decode cX10_sets 0 = .ok (.aload_n 0, 1) := by decide +kernel
theorem dX10_sets_1 : decode cX10_sets 1 = .ok (.invokevirtual 54, 3) := by decide +kernel
theorem dX10_sets_4 : decode cX10_sets 4 = .ok (.aload_n 0, 1) := by decide +kernel
theorem dX10_sets_5 : decode cX10_sets 5 = .ok (.getfield 7, 3) := by decide +kernel
theorem dX10_sets_8 : decode cX10_sets 8 = .ok (.iload_n 1, 1) := by decide +kernel
theorem dX10_sets_9 : decode cX10_sets 9 = .ok (.iaload, 1) := by decide +kernel
theorem dX10_sets_10 : decode cX10_sets 10 = .ok (.istore_n 3, 1) := by decide +kernel
theorem dX10_sets_11 : decode cX10_sets 11 = .ok (.aload_n 0, 1) := by decide +kernel
theorem dX10_sets_12 : decode cX10_sets 12 = .ok (.getfield 7, 3) := by decide +kernel
theorem dX10_sets_15 : decode cX10_sets 15 = .ok (.iload_n 1, 1) := by decide +kernel
theorem dX10_sets_16 : decode cX10_sets 16 = .ok (.iload_n 2, 1) := by decide +kernel
theorem dX10_sets_17 : decode cX10_sets 17 = .ok (.iastore, 1) := by decide +kernel
theorem dX10_sets_18 : decode cX10_sets 18 = .ok (.iload_n 3, 1) := by decide +kernel
theorem dX10_sets_19 : decode cX10_sets 19 = .ok (.ireturn, 1) := by decide +kernel
theorem dX10_change_0 : decode cX10_change 0 = .ok (.aload_n 0, 1) := by decide +kernel
theorem dX10_change_1 : decode cX10_change 1 = .ok (.iload_n 1, 1) := by decide +kernel
theorem dX10_change_2 : decode cX10_change 2 = .ok (.invokevirtual 57, 3) := by decide +kernel
theorem dX10_change_5 : decode cX10_change 5 = .ok (.ifCond .eq 13, 3) := by decide +kernel
theorem dX10_change_8 : decode cX10_change 8 = .ok (.aload_n 0, 1) := by decide +kernel
theorem dX10_change_9 : decode cX10_change 9 = .ok (.iload_n 1, 1) := by decide +kernel
theorem dX10_change_10 : decode cX10_change 10 = .ok (.iload_n 2, 1) := by decide +kernel
theorem dX10_change_11 : decode cX10_change 11 = .ok (.iload_n 3, 1) := by decide +kernel
theorem dX10_change_12 : decode cX10_change 12 = .ok (.invokevirtual 65, 3) := by decide +kernel
theorem dX10_change_15 : decode cX10_change 15 = .ok (.ifCond .ne 7, 3) := by decide +kernel
theorem dX10_change_18 : decode cX10_change 18 = .ok (.sipush (-1001), 3) := by decide +kernel
theorem dX10_change_21 : decode cX10_change 21 = .ok (.ireturn, 1) := by decide +kernel
theorem dX10_change_22 : decode cX10_change 22 = .ok (.aload_n 0, 1) := by decide +kernel
theorem dX10_change_23 : decode cX10_change 23 = .ok (.getfield 7, 3) := by decide +kernel
theorem dX10_change_26 : decode cX10_change 26 = .ok (.iconst 3, 1) := by decide +kernel
theorem dX10_change_27 : decode cX10_change 27 = .ok (.iaload, 1) := by decide +kernel
theorem dX10_change_28 : decode cX10_change 28 = .ok (.ifCond .le 9, 3) := by decide +kernel
theorem dX10_change_31 : decode cX10_change 31 = .ok (.sipush (-1002), 3) := by decide +kernel
theorem dX10_change_34 : decode cX10_change 34 = .ok (.goto 16, 3) := by decide +kernel
theorem dX10_change_37 : decode cX10_change 37 = .ok (.aload_n 0, 1) := by decide +kernel
theorem dX10_change_38 : decode cX10_change 38 = .ok (.bipush 10, 2) := by decide +kernel
theorem dX10_change_40 : decode cX10_change 40 = .ok (.iconst 5, 1) := by decide +kernel
theorem dX10_change_41 : decode cX10_change 41 = .ok (.iload_n 1, 1) := by decide +kernel
theorem dX10_change_42 : decode cX10_change 42 = .ok (.imul, 1) := by decide +kernel
theorem dX10_change_43 : decode cX10_change 43 = .ok (.iadd, 1) := by decide +kernel
theorem dX10_change_44 : decode cX10_change 44 = .ok (.iload_n 2, 1) := by decide +kernel
theorem dX10_change_45 : decode cX10_change 45 = .ok (.iadd, 1) := by decide +kernel
theorem dX10_change_46 : decode cX10_change 46 = .ok (.iload_n 3, 1) := by decide +kernel
theorem dX10_change_47 : decode cX10_change 47 = .ok (.invokevirtual 68, 3) := by decide +kernel
theorem dX10_change_50 : decode cX10_change 50 = .ok (.ireturn, 1) := by decide +kernel
theorem dX10_question_0 : decode cX10_question 0 = .ok (.aload_n 0, 1) := by decide +kernel
theorem dX10_question_1 : decode cX10_question 1 = .ok (.iload_n 1, 1) := by decide +kernel
theorem dX10_question_2 : decode cX10_question 2 = .ok (.invokevirtual 57, 3) := by decide +kernel
theorem dX10_question_5 : decode cX10_question 5 = .ok (.ifCond .eq 21, 3) := by decide +kernel
theorem dX10_question_8 : decode cX10_question 8 = .ok (.iload_n 2, 1) := by decide +kernel
theorem dX10_question_9 : decode cX10_question 9 = .ok (.iconst 0, 1) := by decide +kernel
theorem dX10_question_10 : decode cX10_question 10 = .ok (.iconst 4, 1) := by decide +kernel
theorem dX10_question_11 : decode cX10_question 11 = .ok (.invokestatic 50, 3) := by decide +kernel
theorem dX10_question_14 : decode cX10_question 14 = .ok (.ifCond .eq 12, 3) := by decide +kernel
theorem dX10_question_17 : decode cX10_question 17 = .ok (.aload_n 0, 1) := by decide +kernel
theorem dX10_question_18 : decode cX10_question 18 = .ok (.iload_n 1, 1) := by decide +kernel
theorem dX10_question_19 : decode cX10_question 19 = .ok (.iload_n 2, 1) := by decide +kernel
theorem dX10_question_20 : decode cX10_question 20 = .ok (.invokevirtual 61, 3) := by decide +kernel
theorem dX10_question_23 : decode cX10_question 23 = .ok (.goto 6, 3) := by decide +kernel
theorem dX10_question_26 : decode cX10_question 26 = .ok (.sipush (-1001), 3) := by decide +kernel
theorem dX10_question_29 : decode cX10_question 29 = .ok (.ireturn, 1) := by decide +kernel
theorem dX10_questions_0 : decode cX10_questions 0 = .ok (.aload_n 0, 1) := by decide +kernel
theorem dX10_questions_1 : decode cX10_questions 1 = .ok (.getfield 7, 3) := by decide +kernel
theorem dX10_questions_4 : decode cX10_questions 4 = .ok (.iconst 0, 1) := by decide +kernel
theorem dX10_questions_5 : decode cX10_questions 5 = .ok (.iaload, 1) := by decide +kernel
theorem dX10_questions_6 : decode cX10_questions 6 = .ok (.ireturn, 1) := by decide +kernel
theorem dX10_lot_0 : decode cX10_lot 0 = .ok (.aload_n 0, 1) := by decide +kernel
theorem dX10_lot_1 : decode cX10_lot 1 = .ok (.ldc 71, 2) := by decide +kernel
theorem dX10_lot_3 : decode cX10_lot 3 = .ok (.aload_n 0, 1) := by decide +kernel
theorem dX10_lot_4 : decode cX10_lot 4 = .ok (.getfield 72, 3) := by decide +kernel
theorem dX10_lot_7 : decode cX10_lot 7 = .ok (.imul, 1) := by decide +kernel
theorem dX10_lot_8 : decode cX10_lot 8 = .ok (.sipush 12345, 3) := by decide +kernel
theorem dX10_lot_11 : decode cX10_lot 11 = .ok (.iadd, 1) := by decide +kernel
theorem dX10_lot_12 : decode cX10_lot 12 = .ok (.putfield 72, 3) := by decide +kernel
theorem dX10_lot_15 : decode cX10_lot 15 = .ok (.aload_n 0, 1) := by decide +kernel
theorem dX10_lot_16 : decode cX10_lot 16 = .ok (.getfield 72, 3) := by decide +kernel
theorem dX10_lot_19 : decode cX10_lot 19 = .ok (.bipush 16, 2) := by decide +kernel
theorem dX10_lot_21 : decode cX10_lot 21 = .ok (.iushr, 1) := by decide +kernel
theorem dX10_lot_22 : decode cX10_lot 22 = .ok (.iload_n 1, 1) := by decide +kernel
theorem dX10_lot_23 : decode cX10_lot 23 = .ok (.irem, 1) := by decide +kernel
theorem dX10_lot_24 : decode cX10_lot 24 = .ok (.ireturn, 1) := by decide +kernel
theorem dX10_mixes_0 : decode cX10_mixes 0 = .ok (.aload_n 0, 1) := by decide +kernel
theorem dX10_mixes_1 : decode cX10_mixes 1 = .ok (.getfield 75, 3) := by decide +kernel
theorem dX10_mixes_4 : decode cX10_mixes 4 = .ok (.iconst 1, 1) := by decide +kernel
theorem dX10_mixes_5 : decode cX10_mixes 5 = .ok (.isub, 1) := by decide +kernel
theorem dX10_mixes_6 : decode cX10_mixes 6 = .ok (.istore_n 1, 1) := by decide +kernel
theorem dX10_mixes_7 : decode cX10_mixes 7 = .ok (.iload_n 1, 1) := by decide +kernel
theorem dX10_mixes_8 : decode cX10_mixes 8 = .ok (.ifCond .le 43, 3) := by decide +kernel
theorem dX10_mixes_11 : decode cX10_mixes 11 = .ok (.aload_n 0, 1) := by decide +kernel
theorem dX10_mixes_12 : decode cX10_mixes 12 = .ok (.iload_n 1, 1) := by decide +kernel
theorem dX10_mixes_13 : decode cX10_mixes 13 = .ok (.iconst 1, 1) := by decide +kernel
theorem dX10_mixes_14 : decode cX10_mixes 14 = .ok (.iadd, 1) := by decide +kernel
theorem dX10_mixes_15 : decode cX10_mixes 15 = .ok (.invokevirtual 78, 3) := by decide +kernel
theorem dX10_mixes_18 : decode cX10_mixes 18 = .ok (.istore_n 2, 1) := by decide +kernel
theorem dX10_mixes_19 : decode cX10_mixes 19 = .ok (.aload_n 0, 1) := by decide +kernel
theorem dX10_mixes_20 : decode cX10_mixes 20 = .ok (.getfield 25, 3) := by decide +kernel
theorem dX10_mixes_23 : decode cX10_mixes 23 = .ok (.iload_n 1, 1) := by decide +kernel
theorem dX10_mixes_24 : decode cX10_mixes 24 = .ok (.iaload, 1) := by decide +kernel
theorem dX10_mixes_25 : decode cX10_mixes 25 = .ok (.istore_n 3, 1) := by decide +kernel
theorem dX10_mixes_26 : decode cX10_mixes 26 = .ok (.aload_n 0, 1) := by decide +kernel
theorem dX10_mixes_27 : decode cX10_mixes 27 = .ok (.getfield 25, 3) := by decide +kernel
theorem dX10_mixes_30 : decode cX10_mixes 30 = .ok (.iload_n 1, 1) := by decide +kernel
theorem dX10_mixes_31 : decode cX10_mixes 31 = .ok (.aload_n 0, 1) := by decide +kernel
theorem dX10_mixes_32 : decode cX10_mixes 32 = .ok (.getfield 25, 3) := by decide +kernel
theorem dX10_mixes_35 : decode cX10_mixes 35 = .ok (.iload_n 2, 1) := by decide +kernel
theorem dX10_mixes_36 : decode cX10_mixes 36 = .ok (.iaload, 1) := by decide +kernel
theorem dX10_mixes_37 : decode cX10_mixes 37 = .ok (.iastore, 1) := by decide +kernel
theorem dX10_mixes_38 : decode cX10_mixes 38 = .ok (.aload_n 0, 1) := by decide +kernel
theorem dX10_mixes_39 : decode cX10_mixes 39 = .ok (.getfield 25, 3) := by decide +kernel
theorem dX10_mixes_42 : decode cX10_mixes 42 = .ok (.iload_n 2, 1) := by decide +kernel
theorem dX10_mixes_43 : decode cX10_mixes 43 = .ok (.iload_n 3, 1) := by decide +kernel
theorem dX10_mixes_44 : decode cX10_mixes 44 = .ok (.iastore, 1) := by decide +kernel
theorem dX10_mixes_45 : decode cX10_mixes 45 = .ok (.iinc 1 (-1), 3) := by decide +kernel
theorem dX10_mixes_48 : decode cX10_mixes 48 = .ok (.goto (-41), 3) := by decide +kernel
theorem dX10_mixes_51 : decode cX10_mixes 51 = .ok (.return_, 1) := by decide +kernel
theorem dX10_leads_0 : decode cX10_leads 0 = .ok (.iconst 1, 1) := by decide +kernel
theorem dX10_leads_1 : decode cX10_leads 1 = .ok (.istore_n 2, 1) := by decide +kernel
theorem dX10_leads_2 : decode cX10_leads 2 = .ok (.iconst 0, 1) := by decide +kernel
theorem dX10_leads_3 : decode cX10_leads 3 = .ok (.istore_n 3, 1) := by decide +kernel
theorem dX10_leads_4 : decode cX10_leads 4 = .ok (.iload_n 3, 1) := by decide +kernel
theorem dX10_leads_5 : decode cX10_leads 5 = .ok (.iload_n 1, 1) := by decide +kernel
theorem dX10_leads_6 : decode cX10_leads 6 = .ok (.if_icmp .ge 43, 3) := by decide +kernel
theorem dX10_leads_9 : decode cX10_leads 9 = .ok (.iload_n 2, 1) := by decide +kernel
theorem dX10_leads_10 : decode cX10_leads 10 = .ok (.ifCond .eq 31, 3) := by decide +kernel
theorem dX10_leads_13 : decode cX10_leads 13 = .ok (.aload_n 0, 1) := by decide +kernel
theorem dX10_leads_14 : decode cX10_leads 14 = .ok (.iload_n 1, 1) := by decide +kernel
theorem dX10_leads_15 : decode cX10_leads 15 = .ok (.iconst 3, 1) := by decide +kernel
theorem dX10_leads_16 : decode cX10_leads 16 = .ok (.invokevirtual 61, 3) := by decide +kernel
theorem dX10_leads_19 : decode cX10_leads 19 = .ok (.ifCond .eq 18, 3) := by decide +kernel
theorem dX10_leads_22 : decode cX10_leads 22 = .ok (.aload_n 0, 1) := by decide +kernel
theorem dX10_leads_23 : decode cX10_leads 23 = .ok (.iload_n 3, 1) := by decide +kernel
theorem dX10_leads_24 : decode cX10_leads 24 = .ok (.iconst 3, 1) := by decide +kernel
theorem dX10_leads_25 : decode cX10_leads 25 = .ok (.invokevirtual 61, 3) := by decide +kernel
theorem dX10_leads_28 : decode cX10_leads 28 = .ok (.aload_n 0, 1) := by decide +kernel
theorem dX10_leads_29 : decode cX10_leads 29 = .ok (.iload_n 1, 1) := by decide +kernel
theorem dX10_leads_30 : decode cX10_leads 30 = .ok (.iconst 3, 1) := by decide +kernel
theorem dX10_leads_31 : decode cX10_leads 31 = .ok (.invokevirtual 61, 3) := by decide +kernel
theorem dX10_leads_34 : decode cX10_leads 34 = .ok (.if_icmp .eq 7, 3) := by decide +kernel
theorem dX10_leads_37 : decode cX10_leads 37 = .ok (.iconst 1, 1) := by decide +kernel
theorem dX10_leads_38 : decode cX10_leads 38 = .ok (.goto 4, 3) := by decide +kernel
theorem dX10_leads_41 : decode cX10_leads 41 = .ok (.iconst 0, 1) := by decide +kernel
theorem dX10_leads_42 : decode cX10_leads 42 = .ok (.istore_n 2, 1) := by decide +kernel
theorem dX10_leads_43 : decode cX10_leads 43 = .ok (.iinc 3 1, 3) := by decide +kernel
theorem dX10_leads_46 : decode cX10_leads 46 = .ok (.goto (-42), 3) := by decide +kernel
theorem dX10_leads_49 : decode cX10_leads 49 = .ok (.iload_n 2, 1) := by decide +kernel
theorem dX10_leads_50 : decode cX10_leads 50 = .ok (.ireturn, 1) := by decide +kernel
theorem dX10_mixesChoices_0 : decode cX10_mixesChoices 0 = .ok (.aload_n 0, 1) := by decide +kernel
theorem dX10_mixesChoices_1 : decode cX10_mixesChoices 1 = .ok (.getfield 16, 3) := by decide +kernel
theorem dX10_mixesChoices_4 : decode cX10_mixesChoices 4 = .ok (.iload_n 1, 1) := by decide +kernel
theorem dX10_mixesChoices_5 : decode cX10_mixesChoices 5 = .ok (.iaload, 1) := by decide +kernel
theorem dX10_mixesChoices_6 : decode cX10_mixesChoices 6 = .ok (.istore_n 2, 1) := by decide +kernel
theorem dX10_mixesChoices_7 : decode cX10_mixesChoices 7 = .ok (.aload_n 0, 1) := by decide +kernel
theorem dX10_mixesChoices_8 : decode cX10_mixesChoices 8 = .ok (.iconst 0, 1) := by decide +kernel
theorem dX10_mixesChoices_9 : decode cX10_mixesChoices 9 = .ok (.putfield 75, 3) := by decide +kernel
theorem dX10_mixesChoices_12 : decode cX10_mixesChoices 12 = .ok (.iconst 0, 1) := by decide +kernel
theorem dX10_mixesChoices_13 : decode cX10_mixesChoices 13 = .ok (.istore_n 3, 1) := by decide +kernel
theorem dX10_mixesChoices_14 : decode cX10_mixesChoices 14 = .ok (.iload_n 3, 1) := by decide +kernel
theorem dX10_mixesChoices_15 : decode cX10_mixesChoices 15 = .ok (.aload_n 0, 1) := by decide +kernel
theorem dX10_mixesChoices_16 : decode cX10_mixesChoices 16 = .ok (.iload_n 2, 1) := by decide +kernel
theorem dX10_mixesChoices_17 : decode cX10_mixesChoices 17 = .ok (.iconst 4, 1) := by decide +kernel
theorem dX10_mixesChoices_18 : decode cX10_mixesChoices 18 = .ok (.invokevirtual 61, 3) := by decide +kernel
theorem dX10_mixesChoices_21 : decode cX10_mixesChoices 21 = .ok (.if_icmp .ge 53, 3) := by decide +kernel
theorem dX10_mixesChoices_24 : decode cX10_mixesChoices 24 = .ok (.aload_n 0, 1) := by decide +kernel
theorem dX10_mixesChoices_25 : decode cX10_mixesChoices 25 = .ok (.getfield 22, 3) := by decide +kernel
theorem dX10_mixesChoices_28 : decode cX10_mixesChoices 28 = .ok (.iconst 5, 1) := by decide +kernel
theorem dX10_mixesChoices_29 : decode cX10_mixesChoices 29 = .ok (.iload_n 1, 1) := by decide +kernel
theorem dX10_mixesChoices_30 : decode cX10_mixesChoices 30 = .ok (.imul, 1) := by decide +kernel
theorem dX10_mixesChoices_31 : decode cX10_mixesChoices 31 = .ok (.iload_n 3, 1) := by decide +kernel
theorem dX10_mixesChoices_32 : decode cX10_mixesChoices 32 = .ok (.iadd, 1) := by decide +kernel
theorem dX10_mixesChoices_33 : decode cX10_mixesChoices 33 = .ok (.iload_n 3, 1) := by decide +kernel
theorem dX10_mixesChoices_34 : decode cX10_mixesChoices 34 = .ok (.iastore, 1) := by decide +kernel
theorem dX10_mixesChoices_35 : decode cX10_mixesChoices 35 = .ok (.aload_n 0, 1) := by decide +kernel
theorem dX10_mixesChoices_36 : decode cX10_mixesChoices 36 = .ok (.iload_n 2, 1) := by decide +kernel
theorem dX10_mixesChoices_37 : decode cX10_mixesChoices 37 = .ok (.iconst 2, 1) := by decide +kernel
theorem dX10_mixesChoices_38 : decode cX10_mixesChoices 38 = .ok (.invokevirtual 61, 3) := by decide +kernel
theorem dX10_mixesChoices_41 : decode cX10_mixesChoices 41 = .ok (.iload_n 3, 1) := by decide +kernel
theorem dX10_mixesChoices_42 : decode cX10_mixesChoices 42 = .ok (.ishr, 1) := by decide +kernel
theorem dX10_mixesChoices_43 : decode cX10_mixesChoices 43 = .ok (.iconst 1, 1) := by decide +kernel
theorem dX10_mixesChoices_44 : decode cX10_mixesChoices 44 = .ok (.iand, 1) := by decide +kernel
theorem dX10_mixesChoices_45 : decode cX10_mixesChoices 45 = .ok (.ifCond .ne 23, 3) := by decide +kernel
theorem dX10_mixesChoices_48 : decode cX10_mixesChoices 48 = .ok (.aload_n 0, 1) := by decide +kernel
theorem dX10_mixesChoices_49 : decode cX10_mixesChoices 49 = .ok (.getfield 25, 3) := by decide +kernel
theorem dX10_mixesChoices_52 : decode cX10_mixesChoices 52 = .ok (.aload_n 0, 1) := by decide +kernel
theorem dX10_mixesChoices_53 : decode cX10_mixesChoices 53 = .ok (.getfield 75, 3) := by decide +kernel
theorem dX10_mixesChoices_56 : decode cX10_mixesChoices 56 = .ok (.iload_n 3, 1) := by decide +kernel
theorem dX10_mixesChoices_57 : decode cX10_mixesChoices 57 = .ok (.iastore, 1) := by decide +kernel
theorem dX10_mixesChoices_58 : decode cX10_mixesChoices 58 = .ok (.aload_n 0, 1) := by decide +kernel
theorem dX10_mixesChoices_59 : decode cX10_mixesChoices 59 = .ok (.dup, 1) := by decide +kernel
theorem dX10_mixesChoices_60 : decode cX10_mixesChoices 60 = .ok (.getfield 75, 3) := by decide +kernel
theorem dX10_mixesChoices_63 : decode cX10_mixesChoices 63 = .ok (.iconst 1, 1) := by decide +kernel
theorem dX10_mixesChoices_64 : decode cX10_mixesChoices 64 = .ok (.iadd, 1) := by decide +kernel
theorem dX10_mixesChoices_65 : decode cX10_mixesChoices 65 = .ok (.putfield 75, 3) := by decide +kernel
theorem dX10_mixesChoices_68 : decode cX10_mixesChoices 68 = .ok (.iinc 3 1, 3) := by decide +kernel
theorem dX10_mixesChoices_71 : decode cX10_mixesChoices 71 = .ok (.goto (-57), 3) := by decide +kernel
theorem dX10_mixesChoices_74 : decode cX10_mixesChoices 74 = .ok (.aload_n 0, 1) := by decide +kernel
theorem dX10_mixesChoices_75 : decode cX10_mixesChoices 75 = .ok (.invokevirtual 82, 3) := by decide +kernel
theorem dX10_mixesChoices_78 : decode cX10_mixesChoices 78 = .ok (.iconst 0, 1) := by decide +kernel
theorem dX10_mixesChoices_79 : decode cX10_mixesChoices 79 = .ok (.istore_n 3, 1) := by decide +kernel
theorem dX10_mixesChoices_80 : decode cX10_mixesChoices 80 = .ok (.iconst 0, 1) := by decide +kernel
theorem dX10_mixesChoices_81 : decode cX10_mixesChoices 81 = .ok (.istore 4, 2) := by decide +kernel
theorem dX10_mixesChoices_83 : decode cX10_mixesChoices 83 = .ok (.iload 4, 2) := by decide +kernel
theorem dX10_mixesChoices_85 : decode cX10_mixesChoices 85 = .ok (.aload_n 0, 1) := by decide +kernel
theorem dX10_mixesChoices_86 : decode cX10_mixesChoices 86 = .ok (.iload_n 2, 1) := by decide +kernel
theorem dX10_mixesChoices_87 : decode cX10_mixesChoices 87 = .ok (.iconst 4, 1) := by decide +kernel
theorem dX10_mixesChoices_88 : decode cX10_mixesChoices 88 = .ok (.invokevirtual 61, 3) := by decide +kernel
theorem dX10_mixesChoices_91 : decode cX10_mixesChoices 91 = .ok (.if_icmp .ge 80, 3) := by decide +kernel
theorem dX10_mixesChoices_94 : decode cX10_mixesChoices 94 = .ok (.aload_n 0, 1) := by decide +kernel
theorem dX10_mixesChoices_95 : decode cX10_mixesChoices 95 = .ok (.iload_n 2, 1) := by decide +kernel
theorem dX10_mixesChoices_96 : decode cX10_mixesChoices 96 = .ok (.iconst 2, 1) := by decide +kernel
theorem dX10_mixesChoices_97 : decode cX10_mixesChoices 97 = .ok (.invokevirtual 61, 3) := by decide +kernel
theorem dX10_mixesChoices_100 : decode cX10_mixesChoices 100 = .ok (.iload 4, 2) := by decide +kernel
theorem dX10_mixesChoices_102 : decode cX10_mixesChoices 102 = .ok (.ishr, 1) := by decide +kernel
theorem dX10_mixesChoices_103 : decode cX10_mixesChoices 103 = .ok (.iconst 1, 1) := by decide +kernel
theorem dX10_mixesChoices_104 : decode cX10_mixesChoices 104 = .ok (.iand, 1) := by decide +kernel
theorem dX10_mixesChoices_105 : decode cX10_mixesChoices 105 = .ok (.ifCond .ne 23, 3) := by decide +kernel
theorem dX10_mixesChoices_108 : decode cX10_mixesChoices 108 = .ok (.aload_n 0, 1) := by decide +kernel
theorem dX10_mixesChoices_109 : decode cX10_mixesChoices 109 = .ok (.getfield 22, 3) := by decide +kernel
theorem dX10_mixesChoices_112 : decode cX10_mixesChoices 112 = .ok (.iconst 5, 1) := by decide +kernel
theorem dX10_mixesChoices_113 : decode cX10_mixesChoices 113 = .ok (.iload_n 1, 1) := by decide +kernel
theorem dX10_mixesChoices_114 : decode cX10_mixesChoices 114 = .ok (.imul, 1) := by decide +kernel
theorem dX10_mixesChoices_115 : decode cX10_mixesChoices 115 = .ok (.iload 4, 2) := by decide +kernel
theorem dX10_mixesChoices_117 : decode cX10_mixesChoices 117 = .ok (.iadd, 1) := by decide +kernel
theorem dX10_mixesChoices_118 : decode cX10_mixesChoices 118 = .ok (.aload_n 0, 1) := by decide +kernel
theorem dX10_mixesChoices_119 : decode cX10_mixesChoices 119 = .ok (.getfield 25, 3) := by decide +kernel
theorem dX10_mixesChoices_122 : decode cX10_mixesChoices 122 = .ok (.iload_n 3, 1) := by decide +kernel
theorem dX10_mixesChoices_123 : decode cX10_mixesChoices 123 = .ok (.iaload, 1) := by decide +kernel
theorem dX10_mixesChoices_124 : decode cX10_mixesChoices 124 = .ok (.iastore, 1) := by decide +kernel
theorem dX10_mixesChoices_125 : decode cX10_mixesChoices 125 = .ok (.iinc 3 1, 3) := by decide +kernel
theorem dX10_mixesChoices_128 : decode cX10_mixesChoices 128 = .ok (.aload_n 0, 1) := by decide +kernel
theorem dX10_mixesChoices_129 : decode cX10_mixesChoices 129 = .ok (.getfield 19, 3) := by decide +kernel
theorem dX10_mixesChoices_132 : decode cX10_mixesChoices 132 = .ok (.iload_n 1, 1) := by decide +kernel
theorem dX10_mixesChoices_133 : decode cX10_mixesChoices 133 = .ok (.aload_n 0, 1) := by decide +kernel
theorem dX10_mixesChoices_134 : decode cX10_mixesChoices 134 = .ok (.getfield 22, 3) := by decide +kernel
theorem dX10_mixesChoices_137 : decode cX10_mixesChoices 137 = .ok (.iconst 5, 1) := by decide +kernel
theorem dX10_mixesChoices_138 : decode cX10_mixesChoices 138 = .ok (.iload_n 1, 1) := by decide +kernel
theorem dX10_mixesChoices_139 : decode cX10_mixesChoices 139 = .ok (.imul, 1) := by decide +kernel
theorem dX10_mixesChoices_140 : decode cX10_mixesChoices 140 = .ok (.iload 4, 2) := by decide +kernel
theorem dX10_mixesChoices_142 : decode cX10_mixesChoices 142 = .ok (.iadd, 1) := by decide +kernel
theorem dX10_mixesChoices_143 : decode cX10_mixesChoices 143 = .ok (.iaload, 1) := by decide +kernel
theorem dX10_mixesChoices_144 : decode cX10_mixesChoices 144 = .ok (.aload_n 0, 1) := by decide +kernel
theorem dX10_mixesChoices_145 : decode cX10_mixesChoices 145 = .ok (.iload_n 2, 1) := by decide +kernel
theorem dX10_mixesChoices_146 : decode cX10_mixesChoices 146 = .ok (.iconst 1, 1) := by decide +kernel
theorem dX10_mixesChoices_147 : decode cX10_mixesChoices 147 = .ok (.invokevirtual 61, 3) := by decide +kernel
theorem dX10_mixesChoices_150 : decode cX10_mixesChoices 150 = .ok (.if_icmp .ne 8, 3) := by decide +kernel
theorem dX10_mixesChoices_153 : decode cX10_mixesChoices 153 = .ok (.iload 4, 2) := by decide +kernel
theorem dX10_mixesChoices_155 : decode cX10_mixesChoices 155 = .ok (.goto 9, 3) := by decide +kernel
theorem dX10_mixesChoices_158 : decode cX10_mixesChoices 158 = .ok (.aload_n 0, 1) := by decide +kernel
theorem dX10_mixesChoices_159 : decode cX10_mixesChoices 159 = .ok (.getfield 19, 3) := by decide +kernel
theorem dX10_mixesChoices_162 : decode cX10_mixesChoices 162 = .ok (.iload_n 1, 1) := by decide +kernel
theorem dX10_mixesChoices_163 : decode cX10_mixesChoices 163 = .ok (.iaload, 1) := by decide +kernel
theorem dX10_mixesChoices_164 : decode cX10_mixesChoices 164 = .ok (.iastore, 1) := by decide +kernel
theorem dX10_mixesChoices_165 : decode cX10_mixesChoices 165 = .ok (.iinc 4 1, 3) := by decide +kernel
theorem dX10_mixesChoices_168 : decode cX10_mixesChoices 168 = .ok (.goto (-85), 3) := by decide +kernel
theorem dX10_mixesChoices_171 : decode cX10_mixesChoices 171 = .ok (.return_, 1) := by decide +kernel
theorem dX10_mixesAll_0 : decode cX10_mixesAll 0 = .ok (.aload_n 0, 1) := by decide +kernel
theorem dX10_mixesAll_1 : decode cX10_mixesAll 1 = .ok (.iload_n 1, 1) := by decide +kernel
theorem dX10_mixesAll_2 : decode cX10_mixesAll 2 = .ok (.putfield 72, 3) := by decide +kernel
theorem dX10_mixesAll_5 : decode cX10_mixesAll 5 = .ok (.aload_n 0, 1) := by decide +kernel
theorem dX10_mixesAll_6 : decode cX10_mixesAll 6 = .ok (.iconst 0, 1) := by decide +kernel
theorem dX10_mixesAll_7 : decode cX10_mixesAll 7 = .ok (.putfield 75, 3) := by decide +kernel
theorem dX10_mixesAll_10 : decode cX10_mixesAll 10 = .ok (.iconst 0, 1) := by decide +kernel
theorem dX10_mixesAll_11 : decode cX10_mixesAll 11 = .ok (.istore_n 2, 1) := by decide +kernel
theorem dX10_mixesAll_12 : decode cX10_mixesAll 12 = .ok (.iload_n 2, 1) := by decide +kernel
theorem dX10_mixesAll_13 : decode cX10_mixesAll 13 = .ok (.aload_n 0, 1) := by decide +kernel
theorem dX10_mixesAll_14 : decode cX10_mixesAll 14 = .ok (.getfield 7, 3) := by decide +kernel
theorem dX10_mixesAll_17 : decode cX10_mixesAll 17 = .ok (.iconst 0, 1) := by decide +kernel
theorem dX10_mixesAll_18 : decode cX10_mixesAll 18 = .ok (.iaload, 1) := by decide +kernel
theorem dX10_mixesAll_19 : decode cX10_mixesAll 19 = .ok (.if_icmp .ge 37, 3) := by decide +kernel
theorem dX10_mixesAll_22 : decode cX10_mixesAll 22 = .ok (.aload_n 0, 1) := by decide +kernel
theorem dX10_mixesAll_23 : decode cX10_mixesAll 23 = .ok (.iload_n 2, 1) := by decide +kernel
theorem dX10_mixesAll_24 : decode cX10_mixesAll 24 = .ok (.invokevirtual 85, 3) := by decide +kernel
theorem dX10_mixesAll_27 : decode cX10_mixesAll 27 = .ok (.ifCond .eq 23, 3) := by decide +kernel
theorem dX10_mixesAll_30 : decode cX10_mixesAll 30 = .ok (.aload_n 0, 1) := by decide +kernel
theorem dX10_mixesAll_31 : decode cX10_mixesAll 31 = .ok (.getfield 25, 3) := by decide +kernel
theorem dX10_mixesAll_34 : decode cX10_mixesAll 34 = .ok (.aload_n 0, 1) := by decide +kernel
theorem dX10_mixesAll_35 : decode cX10_mixesAll 35 = .ok (.getfield 75, 3) := by decide +kernel
theorem dX10_mixesAll_38 : decode cX10_mixesAll 38 = .ok (.iload_n 2, 1) := by decide +kernel
theorem dX10_mixesAll_39 : decode cX10_mixesAll 39 = .ok (.iastore, 1) := by decide +kernel
theorem dX10_mixesAll_40 : decode cX10_mixesAll 40 = .ok (.aload_n 0, 1) := by decide +kernel
theorem dX10_mixesAll_41 : decode cX10_mixesAll 41 = .ok (.dup, 1) := by decide +kernel
theorem dX10_mixesAll_42 : decode cX10_mixesAll 42 = .ok (.getfield 75, 3) := by decide +kernel
theorem dX10_mixesAll_45 : decode cX10_mixesAll 45 = .ok (.iconst 1, 1) := by decide +kernel
theorem dX10_mixesAll_46 : decode cX10_mixesAll 46 = .ok (.iadd, 1) := by decide +kernel
theorem dX10_mixesAll_47 : decode cX10_mixesAll 47 = .ok (.putfield 75, 3) := by decide +kernel
theorem dX10_mixesAll_50 : decode cX10_mixesAll 50 = .ok (.iinc 2 1, 3) := by decide +kernel
theorem dX10_mixesAll_53 : decode cX10_mixesAll 53 = .ok (.goto (-41), 3) := by decide +kernel
theorem dX10_mixesAll_56 : decode cX10_mixesAll 56 = .ok (.aload_n 0, 1) := by decide +kernel
theorem dX10_mixesAll_57 : decode cX10_mixesAll 57 = .ok (.invokevirtual 82, 3) := by decide +kernel
theorem dX10_mixesAll_60 : decode cX10_mixesAll 60 = .ok (.aload_n 0, 1) := by decide +kernel
theorem dX10_mixesAll_61 : decode cX10_mixesAll 61 = .ok (.getfield 75, 3) := by decide +kernel
theorem dX10_mixesAll_64 : decode cX10_mixesAll 64 = .ok (.istore_n 2, 1) := by decide +kernel
theorem dX10_mixesAll_65 : decode cX10_mixesAll 65 = .ok (.iconst 0, 1) := by decide +kernel
theorem dX10_mixesAll_66 : decode cX10_mixesAll 66 = .ok (.istore_n 3, 1) := by decide +kernel
theorem dX10_mixesAll_67 : decode cX10_mixesAll 67 = .ok (.iload_n 3, 1) := by decide +kernel
theorem dX10_mixesAll_68 : decode cX10_mixesAll 68 = .ok (.iload_n 2, 1) := by decide +kernel
theorem dX10_mixesAll_69 : decode cX10_mixesAll 69 = .ok (.if_icmp .ge 21, 3) := by decide +kernel
theorem dX10_mixesAll_72 : decode cX10_mixesAll 72 = .ok (.aload_n 0, 1) := by decide +kernel
theorem dX10_mixesAll_73 : decode cX10_mixesAll 73 = .ok (.getfield 28, 3) := by decide +kernel
theorem dX10_mixesAll_76 : decode cX10_mixesAll 76 = .ok (.iload_n 3, 1) := by decide +kernel
theorem dX10_mixesAll_77 : decode cX10_mixesAll 77 = .ok (.aload_n 0, 1) := by decide +kernel
theorem dX10_mixesAll_78 : decode cX10_mixesAll 78 = .ok (.getfield 25, 3) := by decide +kernel
theorem dX10_mixesAll_81 : decode cX10_mixesAll 81 = .ok (.iload_n 3, 1) := by decide +kernel
theorem dX10_mixesAll_82 : decode cX10_mixesAll 82 = .ok (.iaload, 1) := by decide +kernel
theorem dX10_mixesAll_83 : decode cX10_mixesAll 83 = .ok (.iastore, 1) := by decide +kernel
theorem dX10_mixesAll_84 : decode cX10_mixesAll 84 = .ok (.iinc 3 1, 3) := by decide +kernel
theorem dX10_mixesAll_87 : decode cX10_mixesAll 87 = .ok (.goto (-20), 3) := by decide +kernel
theorem dX10_mixesAll_90 : decode cX10_mixesAll 90 = .ok (.iconst 0, 1) := by decide +kernel
theorem dX10_mixesAll_91 : decode cX10_mixesAll 91 = .ok (.istore_n 3, 1) := by decide +kernel
theorem dX10_mixesAll_92 : decode cX10_mixesAll 92 = .ok (.iconst 0, 1) := by decide +kernel
theorem dX10_mixesAll_93 : decode cX10_mixesAll 93 = .ok (.istore 4, 2) := by decide +kernel
theorem dX10_mixesAll_95 : decode cX10_mixesAll 95 = .ok (.iload 4, 2) := by decide +kernel
theorem dX10_mixesAll_97 : decode cX10_mixesAll 97 = .ok (.iload_n 2, 1) := by decide +kernel
theorem dX10_mixesAll_98 : decode cX10_mixesAll 98 = .ok (.if_icmp .ge 137, 3) := by decide +kernel
theorem dX10_mixesAll_101 : decode cX10_mixesAll 101 = .ok (.aload_n 0, 1) := by decide +kernel
theorem dX10_mixesAll_102 : decode cX10_mixesAll 102 = .ok (.iconst 0, 1) := by decide +kernel
theorem dX10_mixesAll_103 : decode cX10_mixesAll 103 = .ok (.putfield 75, 3) := by decide +kernel
theorem dX10_mixesAll_106 : decode cX10_mixesAll 106 = .ok (.iconst 0, 1) := by decide +kernel
theorem dX10_mixesAll_107 : decode cX10_mixesAll 107 = .ok (.istore 5, 2) := by decide +kernel
theorem dX10_mixesAll_109 : decode cX10_mixesAll 109 = .ok (.iload 5, 2) := by decide +kernel
theorem dX10_mixesAll_111 : decode cX10_mixesAll 111 = .ok (.aload_n 0, 1) := by decide +kernel
theorem dX10_mixesAll_112 : decode cX10_mixesAll 112 = .ok (.getfield 7, 3) := by decide +kernel
theorem dX10_mixesAll_115 : decode cX10_mixesAll 115 = .ok (.iconst 0, 1) := by decide +kernel
theorem dX10_mixesAll_116 : decode cX10_mixesAll 116 = .ok (.iaload, 1) := by decide +kernel
theorem dX10_mixesAll_117 : decode cX10_mixesAll 117 = .ok (.if_icmp .ge 74, 3) := by decide +kernel
theorem dX10_mixesAll_120 : decode cX10_mixesAll 120 = .ok (.iload 5, 2) := by decide +kernel
theorem dX10_mixesAll_122 : decode cX10_mixesAll 122 = .ok (.aload_n 0, 1) := by decide +kernel
theorem dX10_mixesAll_123 : decode cX10_mixesAll 123 = .ok (.getfield 28, 3) := by decide +kernel
theorem dX10_mixesAll_126 : decode cX10_mixesAll 126 = .ok (.iload 4, 2) := by decide +kernel
theorem dX10_mixesAll_128 : decode cX10_mixesAll 128 = .ok (.iaload, 1) := by decide +kernel
theorem dX10_mixesAll_129 : decode cX10_mixesAll 129 = .ok (.if_icmp .eq 35, 3) := by decide +kernel
theorem dX10_mixesAll_132 : decode cX10_mixesAll 132 = .ok (.aload_n 0, 1) := by decide +kernel
theorem dX10_mixesAll_133 : decode cX10_mixesAll 133 = .ok (.iload 5, 2) := by decide +kernel
theorem dX10_mixesAll_135 : decode cX10_mixesAll 135 = .ok (.iconst 3, 1) := by decide +kernel
theorem dX10_mixesAll_136 : decode cX10_mixesAll 136 = .ok (.invokevirtual 61, 3) := by decide +kernel
theorem dX10_mixesAll_139 : decode cX10_mixesAll 139 = .ok (.ifCond .eq 46, 3) := by decide +kernel
theorem dX10_mixesAll_142 : decode cX10_mixesAll 142 = .ok (.aload_n 0, 1) := by decide +kernel
theorem dX10_mixesAll_143 : decode cX10_mixesAll 143 = .ok (.iload 5, 2) := by decide +kernel
theorem dX10_mixesAll_145 : decode cX10_mixesAll 145 = .ok (.iconst 3, 1) := by decide +kernel
theorem dX10_mixesAll_146 : decode cX10_mixesAll 146 = .ok (.invokevirtual 61, 3) := by decide +kernel
theorem dX10_mixesAll_149 : decode cX10_mixesAll 149 = .ok (.aload_n 0, 1) := by decide +kernel
theorem dX10_mixesAll_150 : decode cX10_mixesAll 150 = .ok (.aload_n 0, 1) := by decide +kernel
theorem dX10_mixesAll_151 : decode cX10_mixesAll 151 = .ok (.getfield 28, 3) := by decide +kernel
theorem dX10_mixesAll_154 : decode cX10_mixesAll 154 = .ok (.iload 4, 2) := by decide +kernel
theorem dX10_mixesAll_156 : decode cX10_mixesAll 156 = .ok (.iaload, 1) := by decide +kernel
theorem dX10_mixesAll_157 : decode cX10_mixesAll 157 = .ok (.iconst 3, 1) := by decide +kernel
theorem dX10_mixesAll_158 : decode cX10_mixesAll 158 = .ok (.invokevirtual 61, 3) := by decide +kernel
theorem dX10_mixesAll_161 : decode cX10_mixesAll 161 = .ok (.if_icmp .ne 24, 3) := by decide +kernel
theorem dX10_mixesAll_164 : decode cX10_mixesAll 164 = .ok (.aload_n 0, 1) := by decide +kernel
theorem dX10_mixesAll_165 : decode cX10_mixesAll 165 = .ok (.getfield 25, 3) := by decide +kernel
theorem dX10_mixesAll_168 : decode cX10_mixesAll 168 = .ok (.aload_n 0, 1) := by decide +kernel
theorem dX10_mixesAll_169 : decode cX10_mixesAll 169 = .ok (.getfield 75, 3) := by decide +kernel
theorem dX10_mixesAll_172 : decode cX10_mixesAll 172 = .ok (.iload 5, 2) := by decide +kernel
theorem dX10_mixesAll_174 : decode cX10_mixesAll 174 = .ok (.iastore, 1) := by decide +kernel
theorem dX10_mixesAll_175 : decode cX10_mixesAll 175 = .ok (.aload_n 0, 1) := by decide +kernel
theorem dX10_mixesAll_176 : decode cX10_mixesAll 176 = .ok (.dup, 1) := by decide +kernel
theorem dX10_mixesAll_177 : decode cX10_mixesAll 177 = .ok (.getfield 75, 3) := by decide +kernel
theorem dX10_mixesAll_180 : decode cX10_mixesAll 180 = .ok (.iconst 1, 1) := by decide +kernel
theorem dX10_mixesAll_181 : decode cX10_mixesAll 181 = .ok (.iadd, 1) := by decide +kernel
theorem dX10_mixesAll_182 : decode cX10_mixesAll 182 = .ok (.putfield 75, 3) := by decide +kernel
theorem dX10_mixesAll_185 : decode cX10_mixesAll 185 = .ok (.iinc 5 1, 3) := by decide +kernel
theorem dX10_mixesAll_188 : decode cX10_mixesAll 188 = .ok (.goto (-79), 3) := by decide +kernel
theorem dX10_mixesAll_191 : decode cX10_mixesAll 191 = .ok (.aload_n 0, 1) := by decide +kernel
theorem dX10_mixesAll_192 : decode cX10_mixesAll 192 = .ok (.invokevirtual 82, 3) := by decide +kernel
theorem dX10_mixesAll_195 : decode cX10_mixesAll 195 = .ok (.iconst 0, 1) := by decide +kernel
theorem dX10_mixesAll_196 : decode cX10_mixesAll 196 = .ok (.istore 5, 2) := by decide +kernel
theorem dX10_mixesAll_198 : decode cX10_mixesAll 198 = .ok (.iload 5, 2) := by decide +kernel
theorem dX10_mixesAll_200 : decode cX10_mixesAll 200 = .ok (.aload_n 0, 1) := by decide +kernel
theorem dX10_mixesAll_201 : decode cX10_mixesAll 201 = .ok (.getfield 75, 3) := by decide +kernel
theorem dX10_mixesAll_204 : decode cX10_mixesAll 204 = .ok (.if_icmp .ge 25, 3) := by decide +kernel
theorem dX10_mixesAll_207 : decode cX10_mixesAll 207 = .ok (.aload_n 0, 1) := by decide +kernel
theorem dX10_mixesAll_208 : decode cX10_mixesAll 208 = .ok (.getfield 16, 3) := by decide +kernel
theorem dX10_mixesAll_211 : decode cX10_mixesAll 211 = .ok (.iload_n 3, 1) := by decide +kernel
theorem dX10_mixesAll_212 : decode cX10_mixesAll 212 = .ok (.aload_n 0, 1) := by decide +kernel
theorem dX10_mixesAll_213 : decode cX10_mixesAll 213 = .ok (.getfield 25, 3) := by decide +kernel
theorem dX10_mixesAll_216 : decode cX10_mixesAll 216 = .ok (.iload 5, 2) := by decide +kernel
theorem dX10_mixesAll_218 : decode cX10_mixesAll 218 = .ok (.iaload, 1) := by decide +kernel
theorem dX10_mixesAll_219 : decode cX10_mixesAll 219 = .ok (.iastore, 1) := by decide +kernel
theorem dX10_mixesAll_220 : decode cX10_mixesAll 220 = .ok (.iinc 3 1, 3) := by decide +kernel
theorem dX10_mixesAll_223 : decode cX10_mixesAll 223 = .ok (.iinc 5 1, 3) := by decide +kernel
theorem dX10_mixesAll_226 : decode cX10_mixesAll 226 = .ok (.goto (-28), 3) := by decide +kernel
theorem dX10_mixesAll_229 : decode cX10_mixesAll 229 = .ok (.iinc 4 1, 3) := by decide +kernel
theorem dX10_mixesAll_232 : decode cX10_mixesAll 232 = .ok (.goto (-137), 3) := by decide +kernel
theorem dX10_mixesAll_235 : decode cX10_mixesAll 235 = .ok (.iconst 0, 1) := by decide +kernel
theorem dX10_mixesAll_236 : decode cX10_mixesAll 236 = .ok (.istore 4, 2) := by decide +kernel
theorem dX10_mixesAll_238 : decode cX10_mixesAll 238 = .ok (.iload 4, 2) := by decide +kernel
theorem dX10_mixesAll_240 : decode cX10_mixesAll 240 = .ok (.iload_n 3, 1) := by decide +kernel
theorem dX10_mixesAll_241 : decode cX10_mixesAll 241 = .ok (.if_icmp .ge 15, 3) := by decide +kernel
theorem dX10_mixesAll_244 : decode cX10_mixesAll 244 = .ok (.aload_n 0, 1) := by decide +kernel
theorem dX10_mixesAll_245 : decode cX10_mixesAll 245 = .ok (.iload 4, 2) := by decide +kernel
theorem dX10_mixesAll_247 : decode cX10_mixesAll 247 = .ok (.invokevirtual 88, 3) := by decide +kernel
theorem dX10_mixesAll_250 : decode cX10_mixesAll 250 = .ok (.iinc 4 1, 3) := by decide +kernel
theorem dX10_mixesAll_253 : decode cX10_mixesAll 253 = .ok (.goto (-15), 3) := by decide +kernel
theorem dX10_mixesAll_256 : decode cX10_mixesAll 256 = .ok (.return_, 1) := by decide +kernel
theorem dX10_opens_0 : decode cX10_opens 0 = .ok (.aload_n 0, 1) := by decide +kernel
theorem dX10_opens_1 : decode cX10_opens 1 = .ok (.aload_n 0, 1) := by decide +kernel
theorem dX10_opens_2 : decode cX10_opens 2 = .ok (.getfield 7, 3) := by decide +kernel
theorem dX10_opens_5 : decode cX10_opens 5 = .ok (.bipush 110, 2) := by decide +kernel
theorem dX10_opens_7 : decode cX10_opens 7 = .ok (.iload_n 1, 1) := by decide +kernel
theorem dX10_opens_8 : decode cX10_opens 8 = .ok (.iadd, 1) := by decide +kernel
theorem dX10_opens_9 : decode cX10_opens 9 = .ok (.iaload, 1) := by decide +kernel
theorem dX10_opens_10 : decode cX10_opens 10 = .ok (.invokevirtual 92, 3) := by decide +kernel
theorem dX10_opens_13 : decode cX10_opens 13 = .ok (.return_, 1) := by decide +kernel
theorem dX10_needs_0 : decode cX10_needs 0 = .ok (.iconst 0, 1) := by decide +kernel
theorem dX10_needs_1 : decode cX10_needs 1 = .ok (.istore_n 3, 1) := by decide +kernel
theorem dX10_needs_2 : decode cX10_needs 2 = .ok (.iconst 0, 1) := by decide +kernel
theorem dX10_needs_3 : decode cX10_needs 3 = .ok (.istore 4, 2) := by decide +kernel
theorem dX10_needs_5 : decode cX10_needs 5 = .ok (.iload_n 1, 1) := by decide +kernel
theorem dX10_needs_6 : decode cX10_needs 6 = .ok (.istore 5, 2) := by decide +kernel
theorem dX10_needs_8 : decode cX10_needs 8 = .ok (.iload 5, 2) := by decide +kernel
theorem dX10_needs_10 : decode cX10_needs 10 = .ok (.aload_n 0, 1) := by decide +kernel
theorem dX10_needs_11 : decode cX10_needs 11 = .ok (.getfield 7, 3) := by decide +kernel
theorem dX10_needs_14 : decode cX10_needs 14 = .ok (.iconst 0, 1) := by decide +kernel
theorem dX10_needs_15 : decode cX10_needs 15 = .ok (.iaload, 1) := by decide +kernel
theorem dX10_needs_16 : decode cX10_needs 16 = .ok (.if_icmp .ge 68, 3) := by decide +kernel
theorem dX10_needs_19 : decode cX10_needs 19 = .ok (.aload_n 0, 1) := by decide +kernel
theorem dX10_needs_20 : decode cX10_needs 20 = .ok (.aload_n 0, 1) := by decide +kernel
theorem dX10_needs_21 : decode cX10_needs 21 = .ok (.getfield 16, 3) := by decide +kernel
theorem dX10_needs_24 : decode cX10_needs 24 = .ok (.iload 5, 2) := by decide +kernel
theorem dX10_needs_26 : decode cX10_needs 26 = .ok (.iaload, 1) := by decide +kernel
theorem dX10_needs_27 : decode cX10_needs 27 = .ok (.iconst 0, 1) := by decide +kernel
theorem dX10_needs_28 : decode cX10_needs 28 = .ok (.invokevirtual 61, 3) := by decide +kernel
theorem dX10_needs_31 : decode cX10_needs 31 = .ok (.istore 6, 2) := by decide +kernel
theorem dX10_needs_33 : decode cX10_needs 33 = .ok (.iload 6, 2) := by decide +kernel
theorem dX10_needs_35 : decode cX10_needs 35 = .ok (.iload_n 2, 1) := by decide +kernel
theorem dX10_needs_36 : decode cX10_needs 36 = .ok (.if_icmp .le 6, 3) := by decide +kernel
theorem dX10_needs_39 : decode cX10_needs 39 = .ok (.bipush 99, 2) := by decide +kernel
theorem dX10_needs_41 : decode cX10_needs 41 = .ok (.ireturn, 1) := by decide +kernel
theorem dX10_needs_42 : decode cX10_needs 42 = .ok (.iload_n 3, 1) := by decide +kernel
theorem dX10_needs_43 : decode cX10_needs 43 = .ok (.iload 6, 2) := by decide +kernel
theorem dX10_needs_45 : decode cX10_needs 45 = .ok (.iload 4, 2) := by decide +kernel
theorem dX10_needs_47 : decode cX10_needs 47 = .ok (.if_icmp .le 7, 3) := by decide +kernel
theorem dX10_needs_50 : decode cX10_needs 50 = .ok (.iconst 1, 1) := by decide +kernel
theorem dX10_needs_51 : decode cX10_needs 51 = .ok (.goto 4, 3) := by decide +kernel
theorem dX10_needs_54 : decode cX10_needs 54 = .ok (.iconst 0, 1) := by decide +kernel
theorem dX10_needs_55 : decode cX10_needs 55 = .ok (.iadd, 1) := by decide +kernel
theorem dX10_needs_56 : decode cX10_needs 56 = .ok (.istore_n 3, 1) := by decide +kernel
theorem dX10_needs_57 : decode cX10_needs 57 = .ok (.iload 6, 2) := by decide +kernel
theorem dX10_needs_59 : decode cX10_needs 59 = .ok (.iload 4, 2) := by decide +kernel
theorem dX10_needs_61 : decode cX10_needs 61 = .ok (.if_icmp .le 10, 3) := by decide +kernel
theorem dX10_needs_64 : decode cX10_needs 64 = .ok (.iload_n 2, 1) := by decide +kernel
theorem dX10_needs_65 : decode cX10_needs 65 = .ok (.iload 6, 2) := by decide +kernel
theorem dX10_needs_67 : decode cX10_needs 67 = .ok (.isub, 1) := by decide +kernel
theorem dX10_needs_68 : decode cX10_needs 68 = .ok (.goto 8, 3) := by decide +kernel
theorem dX10_needs_71 : decode cX10_needs 71 = .ok (.iload 4, 2) := by decide +kernel
theorem dX10_needs_73 : decode cX10_needs 73 = .ok (.iload 6, 2) := by decide +kernel
theorem dX10_needs_75 : decode cX10_needs 75 = .ok (.isub, 1) := by decide +kernel
theorem dX10_needs_76 : decode cX10_needs 76 = .ok (.istore 4, 2) := by decide +kernel
theorem dX10_needs_78 : decode cX10_needs 78 = .ok (.iinc 5 1, 3) := by decide +kernel
theorem dX10_needs_81 : decode cX10_needs 81 = .ok (.goto (-73), 3) := by decide +kernel
theorem dX10_needs_84 : decode cX10_needs 84 = .ok (.iload_n 3, 1) := by decide +kernel
theorem dX10_needs_85 : decode cX10_needs 85 = .ok (.ireturn, 1) := by decide +kernel
theorem dX10_lays_0 : decode cX10_lays 0 = .ok (.aload_n 0, 1) := by decide +kernel
theorem dX10_lays_1 : decode cX10_lays 1 = .ok (.aload_n 0, 1) := by decide +kernel
theorem dX10_lays_2 : decode cX10_lays 2 = .ok (.iconst 0, 1) := by decide +kernel
theorem dX10_lays_3 : decode cX10_lays 3 = .ok (.aload_n 0, 1) := by decide +kernel
theorem dX10_lays_4 : decode cX10_lays 4 = .ok (.getfield 7, 3) := by decide +kernel
theorem dX10_lays_7 : decode cX10_lays 7 = .ok (.iconst 2, 1) := by decide +kernel
theorem dX10_lays_8 : decode cX10_lays 8 = .ok (.iaload, 1) := by decide +kernel
theorem dX10_lays_9 : decode cX10_lays 9 = .ok (.invokevirtual 95, 3) := by decide +kernel
theorem dX10_lays_12 : decode cX10_lays 12 = .ok (.putfield 98, 3) := by decide +kernel
theorem dX10_lays_15 : decode cX10_lays 15 = .ok (.iconst 1, 1) := by decide +kernel
theorem dX10_lays_16 : decode cX10_lays 16 = .ok (.istore_n 1, 1) := by decide +kernel
theorem dX10_lays_17 : decode cX10_lays 17 = .ok (.aload_n 0, 1) := by decide +kernel
theorem dX10_lays_18 : decode cX10_lays 18 = .ok (.iconst 0, 1) := by decide +kernel
theorem dX10_lays_19 : decode cX10_lays 19 = .ok (.iload_n 1, 1) := by decide +kernel
theorem dX10_lays_20 : decode cX10_lays 20 = .ok (.invokevirtual 95, 3) := by decide +kernel
theorem dX10_lays_23 : decode cX10_lays 23 = .ok (.aload_n 0, 1) := by decide +kernel
theorem dX10_lays_24 : decode cX10_lays 24 = .ok (.getfield 98, 3) := by decide +kernel
theorem dX10_lays_27 : decode cX10_lays 27 = .ok (.if_icmp .le 9, 3) := by decide +kernel
theorem dX10_lays_30 : decode cX10_lays 30 = .ok (.iinc 1 1, 3) := by decide +kernel
theorem dX10_lays_33 : decode cX10_lays 33 = .ok (.goto (-16), 3) := by decide +kernel
theorem dX10_lays_36 : decode cX10_lays 36 = .ok (.iconst 0, 1) := by decide +kernel
theorem dX10_lays_37 : decode cX10_lays 37 = .ok (.istore_n 2, 1) := by decide +kernel
theorem dX10_lays_38 : decode cX10_lays 38 = .ok (.iconst 0, 1) := by decide +kernel
theorem dX10_lays_39 : decode cX10_lays 39 = .ok (.istore_n 3, 1) := by decide +kernel
theorem dX10_lays_40 : decode cX10_lays 40 = .ok (.iload_n 3, 1) := by decide +kernel
theorem dX10_lays_41 : decode cX10_lays 41 = .ok (.aload_n 0, 1) := by decide +kernel
theorem dX10_lays_42 : decode cX10_lays 42 = .ok (.getfield 98, 3) := by decide +kernel
theorem dX10_lays_45 : decode cX10_lays 45 = .ok (.if_icmp .ge 81, 3) := by decide +kernel
theorem dX10_lays_48 : decode cX10_lays 48 = .ok (.iconst 0, 1) := by decide +kernel
theorem dX10_lays_49 : decode cX10_lays 49 = .ok (.istore 4, 2) := by decide +kernel
theorem dX10_lays_51 : decode cX10_lays 51 = .ok (.iconst 1, 1) := by decide +kernel
theorem dX10_lays_52 : decode cX10_lays 52 = .ok (.istore 5, 2) := by decide +kernel
theorem dX10_lays_54 : decode cX10_lays 54 = .ok (.iload 5, 2) := by decide +kernel
theorem dX10_lays_56 : decode cX10_lays 56 = .ok (.ifCond .eq 64, 3) := by decide +kernel
theorem dX10_lays_59 : decode cX10_lays 59 = .ok (.aload_n 0, 1) := by decide +kernel
theorem dX10_lays_60 : decode cX10_lays 60 = .ok (.getfield 31, 3) := by decide +kernel
theorem dX10_lays_63 : decode cX10_lays 63 = .ok (.iload_n 2, 1) := by decide +kernel
theorem dX10_lays_64 : decode cX10_lays 64 = .ok (.iload_n 3, 1) := by decide +kernel
theorem dX10_lays_65 : decode cX10_lays 65 = .ok (.iastore, 1) := by decide +kernel
theorem dX10_lays_66 : decode cX10_lays 66 = .ok (.aload_n 0, 1) := by decide +kernel
theorem dX10_lays_67 : decode cX10_lays 67 = .ok (.getfield 34, 3) := by decide +kernel
theorem dX10_lays_70 : decode cX10_lays 70 = .ok (.iload_n 2, 1) := by decide +kernel
theorem dX10_lays_71 : decode cX10_lays 71 = .ok (.iload 4, 2) := by decide +kernel
theorem dX10_lays_73 : decode cX10_lays 73 = .ok (.iastore, 1) := by decide +kernel
theorem dX10_lays_74 : decode cX10_lays 74 = .ok (.iload 4, 2) := by decide +kernel
theorem dX10_lays_76 : decode cX10_lays 76 = .ok (.aload_n 0, 1) := by decide +kernel
theorem dX10_lays_77 : decode cX10_lays 77 = .ok (.aload_n 0, 1) := by decide +kernel
theorem dX10_lays_78 : decode cX10_lays 78 = .ok (.getfield 16, 3) := by decide +kernel
theorem dX10_lays_81 : decode cX10_lays 81 = .ok (.iload_n 2, 1) := by decide +kernel
theorem dX10_lays_82 : decode cX10_lays 82 = .ok (.iaload, 1) := by decide +kernel
theorem dX10_lays_83 : decode cX10_lays 83 = .ok (.iconst 0, 1) := by decide +kernel
theorem dX10_lays_84 : decode cX10_lays 84 = .ok (.invokevirtual 61, 3) := by decide +kernel
theorem dX10_lays_87 : decode cX10_lays 87 = .ok (.iadd, 1) := by decide +kernel
theorem dX10_lays_88 : decode cX10_lays 88 = .ok (.istore 4, 2) := by decide +kernel
theorem dX10_lays_90 : decode cX10_lays 90 = .ok (.iinc 2 1, 3) := by decide +kernel
theorem dX10_lays_93 : decode cX10_lays 93 = .ok (.aload_n 0, 1) := by decide +kernel
theorem dX10_lays_94 : decode cX10_lays 94 = .ok (.iload_n 2, 1) := by decide +kernel
theorem dX10_lays_95 : decode cX10_lays 95 = .ok (.iload_n 1, 1) := by decide +kernel
theorem dX10_lays_96 : decode cX10_lays 96 = .ok (.invokevirtual 95, 3) := by decide +kernel
theorem dX10_lays_99 : decode cX10_lays 99 = .ok (.aload_n 0, 1) := by decide +kernel
theorem dX10_lays_100 : decode cX10_lays 100 = .ok (.getfield 98, 3) := by decide +kernel
theorem dX10_lays_103 : decode cX10_lays 103 = .ok (.iconst 1, 1) := by decide +kernel
theorem dX10_lays_104 : decode cX10_lays 104 = .ok (.isub, 1) := by decide +kernel
theorem dX10_lays_105 : decode cX10_lays 105 = .ok (.iload_n 3, 1) := by decide +kernel
theorem dX10_lays_106 : decode cX10_lays 106 = .ok (.isub, 1) := by decide +kernel
theorem dX10_lays_107 : decode cX10_lays 107 = .ok (.if_icmp .le 7, 3) := by decide +kernel
theorem dX10_lays_110 : decode cX10_lays 110 = .ok (.iconst 1, 1) := by decide +kernel
theorem dX10_lays_111 : decode cX10_lays 111 = .ok (.goto 4, 3) := by decide +kernel
theorem dX10_lays_114 : decode cX10_lays 114 = .ok (.iconst 0, 1) := by decide +kernel
theorem dX10_lays_115 : decode cX10_lays 115 = .ok (.istore 5, 2) := by decide +kernel
theorem dX10_lays_117 : decode cX10_lays 117 = .ok (.goto (-63), 3) := by decide +kernel
theorem dX10_lays_120 : decode cX10_lays 120 = .ok (.iinc 3 1, 3) := by decide +kernel
theorem dX10_lays_123 : decode cX10_lays 123 = .ok (.goto (-83), 3) := by decide +kernel
theorem dX10_lays_126 : decode cX10_lays 126 = .ok (.return_, 1) := by decide +kernel
theorem dX10_told_0 : decode cX10_told 0 = .ok (.iload_n 2, 1) := by decide +kernel
theorem dX10_told_1 : decode cX10_told 1 = .ok (.ifCond .ne 12, 3) := by decide +kernel
theorem dX10_told_4 : decode cX10_told 4 = .ok (.aload_n 0, 1) := by decide +kernel
theorem dX10_told_5 : decode cX10_told 5 = .ok (.getfield 16, 3) := by decide +kernel
theorem dX10_told_8 : decode cX10_told 8 = .ok (.iload_n 1, 1) := by decide +kernel
theorem dX10_told_9 : decode cX10_told 9 = .ok (.iaload, 1) := by decide +kernel
theorem dX10_told_10 : decode cX10_told 10 = .ok (.goto 37, 3) := by decide +kernel
theorem dX10_told_13 : decode cX10_told 13 = .ok (.iload_n 2, 1) := by decide +kernel
theorem dX10_told_14 : decode cX10_told 14 = .ok (.iconst 1, 1) := by decide +kernel
theorem dX10_told_15 : decode cX10_told 15 = .ok (.if_icmp .ne 12, 3) := by decide +kernel
theorem dX10_told_18 : decode cX10_told 18 = .ok (.aload_n 0, 1) := by decide +kernel
theorem dX10_told_19 : decode cX10_told 19 = .ok (.getfield 19, 3) := by decide +kernel
theorem dX10_told_22 : decode cX10_told 22 = .ok (.iload_n 1, 1) := by decide +kernel
theorem dX10_told_23 : decode cX10_told 23 = .ok (.iaload, 1) := by decide +kernel
theorem dX10_told_24 : decode cX10_told 24 = .ok (.goto 23, 3) := by decide +kernel
theorem dX10_told_27 : decode cX10_told 27 = .ok (.iload_n 2, 1) := by decide +kernel
theorem dX10_told_28 : decode cX10_told 28 = .ok (.iconst 2, 1) := by decide +kernel
theorem dX10_told_29 : decode cX10_told 29 = .ok (.if_icmp .ne 12, 3) := by decide +kernel
theorem dX10_told_32 : decode cX10_told 32 = .ok (.aload_n 0, 1) := by decide +kernel
theorem dX10_told_33 : decode cX10_told 33 = .ok (.getfield 31, 3) := by decide +kernel
theorem dX10_told_36 : decode cX10_told 36 = .ok (.iload_n 1, 1) := by decide +kernel
theorem dX10_told_37 : decode cX10_told 37 = .ok (.iaload, 1) := by decide +kernel
theorem dX10_told_38 : decode cX10_told 38 = .ok (.goto 9, 3) := by decide +kernel
theorem dX10_told_41 : decode cX10_told 41 = .ok (.aload_n 0, 1) := by decide +kernel
theorem dX10_told_42 : decode cX10_told 42 = .ok (.getfield 34, 3) := by decide +kernel
theorem dX10_told_45 : decode cX10_told 45 = .ok (.iload_n 1, 1) := by decide +kernel
theorem dX10_told_46 : decode cX10_told 46 = .ok (.iaload, 1) := by decide +kernel
theorem dX10_told_47 : decode cX10_told 47 = .ok (.ireturn, 1) := by decide +kernel
theorem dX10_version_0 : decode cX10_version 0 = .ok (.aload_n 0, 1) := by decide +kernel
theorem dX10_version_1 : decode cX10_version 1 = .ok (.getfield 7, 3) := by decide +kernel
theorem dX10_version_4 : decode cX10_version 4 = .ok (.iconst 3, 1) := by decide +kernel
theorem dX10_version_5 : decode cX10_version 5 = .ok (.iaload, 1) := by decide +kernel
theorem dX10_version_6 : decode cX10_version 6 = .ok (.ifCond .le 7, 3) := by decide +kernel
theorem dX10_version_9 : decode cX10_version 9 = .ok (.sipush (-1002), 3) := by decide +kernel
theorem dX10_version_12 : decode cX10_version 12 = .ok (.ireturn, 1) := by decide +kernel
theorem dX10_version_13 : decode cX10_version 13 = .ok (.aload_n 0, 1) := by decide +kernel
theorem dX10_version_14 : decode cX10_version 14 = .ok (.getfield 7, 3) := by decide +kernel
theorem dX10_version_17 : decode cX10_version 17 = .ok (.iconst 1, 1) := by decide +kernel
theorem dX10_version_18 : decode cX10_version 18 = .ok (.iaload, 1) := by decide +kernel
theorem dX10_version_19 : decode cX10_version 19 = .ok (.bipush 6, 2) := by decide +kernel
theorem dX10_version_21 : decode cX10_version 21 = .ok (.if_icmp .ne 7, 3) := by decide +kernel
theorem dX10_version_24 : decode cX10_version 24 = .ok (.sipush (-1003), 3) := by decide +kernel
theorem dX10_version_27 : decode cX10_version 27 = .ok (.ireturn, 1) := by decide +kernel
theorem dX10_version_28 : decode cX10_version 28 = .ok (.aload_n 0, 1) := by decide +kernel
theorem dX10_version_29 : decode cX10_version 29 = .ok (.invokevirtual 54, 3) := by decide +kernel
theorem dX10_version_32 : decode cX10_version 32 = .ok (.aload_n 0, 1) := by decide +kernel
theorem dX10_version_33 : decode cX10_version 33 = .ok (.getfield 7, 3) := by decide +kernel
theorem dX10_version_36 : decode cX10_version 36 = .ok (.bipush 110, 2) := by decide +kernel
theorem dX10_version_38 : decode cX10_version 38 = .ok (.aload_n 0, 1) := by decide +kernel
theorem dX10_version_39 : decode cX10_version 39 = .ok (.getfield 7, 3) := by decide +kernel
theorem dX10_version_42 : decode cX10_version 42 = .ok (.iconst 1, 1) := by decide +kernel
theorem dX10_version_43 : decode cX10_version 43 = .ok (.iaload, 1) := by decide +kernel
theorem dX10_version_44 : decode cX10_version 44 = .ok (.iadd, 1) := by decide +kernel
theorem dX10_version_45 : decode cX10_version 45 = .ok (.iload_n 1, 1) := by decide +kernel
theorem dX10_version_46 : decode cX10_version 46 = .ok (.iastore, 1) := by decide +kernel
theorem dX10_version_47 : decode cX10_version 47 = .ok (.aload_n 0, 1) := by decide +kernel
theorem dX10_version_48 : decode cX10_version 48 = .ok (.getfield 7, 3) := by decide +kernel
theorem dX10_version_51 : decode cX10_version 51 = .ok (.iconst 1, 1) := by decide +kernel
theorem dX10_version_52 : decode cX10_version 52 = .ok (.dup2, 1) := by decide +kernel
theorem dX10_version_53 : decode cX10_version 53 = .ok (.iaload, 1) := by decide +kernel
theorem dX10_version_54 : decode cX10_version 54 = .ok (.iconst 1, 1) := by decide +kernel
theorem dX10_version_55 : decode cX10_version 55 = .ok (.iadd, 1) := by decide +kernel
theorem dX10_version_56 : decode cX10_version 56 = .ok (.iastore, 1) := by decide +kernel
theorem dX10_version_57 : decode cX10_version 57 = .ok (.aload_n 0, 1) := by decide +kernel
theorem dX10_version_58 : decode cX10_version 58 = .ok (.getfield 7, 3) := by decide +kernel
theorem dX10_version_61 : decode cX10_version 61 = .ok (.iconst 1, 1) := by decide +kernel
theorem dX10_version_62 : decode cX10_version 62 = .ok (.iaload, 1) := by decide +kernel
theorem dX10_version_63 : decode cX10_version 63 = .ok (.iconst 1, 1) := by decide +kernel
theorem dX10_version_64 : decode cX10_version 64 = .ok (.isub, 1) := by decide +kernel
theorem dX10_version_65 : decode cX10_version 65 = .ok (.ireturn, 1) := by decide +kernel
theorem dX10_drop_0 : decode cX10_drop 0 = .ok (.aload_n 0, 1) := by decide +kernel
theorem dX10_drop_1 : decode cX10_drop 1 = .ok (.getfield 7, 3) := by decide +kernel
theorem dX10_drop_4 : decode cX10_drop 4 = .ok (.iconst 3, 1) := by decide +kernel
theorem dX10_drop_5 : decode cX10_drop 5 = .ok (.iaload, 1) := by decide +kernel
theorem dX10_drop_6 : decode cX10_drop 6 = .ok (.ifCond .gt 12, 3) := by decide +kernel
theorem dX10_drop_9 : decode cX10_drop 9 = .ok (.aload_n 0, 1) := by decide +kernel
theorem dX10_drop_10 : decode cX10_drop 10 = .ok (.getfield 7, 3) := by decide +kernel
theorem dX10_drop_13 : decode cX10_drop 13 = .ok (.iconst 1, 1) := by decide +kernel
theorem dX10_drop_14 : decode cX10_drop 14 = .ok (.iaload, 1) := by decide +kernel
theorem dX10_drop_15 : decode cX10_drop 15 = .ok (.ifCond .ne 7, 3) := by decide +kernel
theorem dX10_drop_18 : decode cX10_drop 18 = .ok (.ldc2_w 101, 3) := by decide +kernel
theorem dX10_drop_21 : decode cX10_drop 21 = .ok (.lreturn, 1) := by decide +kernel
theorem dX10_drop_22 : decode cX10_drop 22 = .ok (.aload_n 0, 1) := by decide +kernel
theorem dX10_drop_23 : decode cX10_drop 23 = .ok (.invokevirtual 54, 3) := by decide +kernel
theorem dX10_drop_26 : decode cX10_drop 26 = .ok (.aload_n 0, 1) := by decide +kernel
theorem dX10_drop_27 : decode cX10_drop 27 = .ok (.getfield 7, 3) := by decide +kernel
theorem dX10_drop_30 : decode cX10_drop 30 = .ok (.iconst 1, 1) := by decide +kernel
theorem dX10_drop_31 : decode cX10_drop 31 = .ok (.dup2, 1) := by decide +kernel
theorem dX10_drop_32 : decode cX10_drop 32 = .ok (.iaload, 1) := by decide +kernel
theorem dX10_drop_33 : decode cX10_drop 33 = .ok (.iconst 1, 1) := by decide +kernel
theorem dX10_drop_34 : decode cX10_drop 34 = .ok (.isub, 1) := by decide +kernel
theorem dX10_drop_35 : decode cX10_drop 35 = .ok (.iastore, 1) := by decide +kernel
theorem dX10_drop_36 : decode cX10_drop 36 = .ok (.aload_n 0, 1) := by decide +kernel
theorem dX10_drop_37 : decode cX10_drop 37 = .ok (.getfield 7, 3) := by decide +kernel
theorem dX10_drop_40 : decode cX10_drop 40 = .ok (.bipush 110, 2) := by decide +kernel
theorem dX10_drop_42 : decode cX10_drop 42 = .ok (.aload_n 0, 1) := by decide +kernel
theorem dX10_drop_43 : decode cX10_drop 43 = .ok (.getfield 7, 3) := by decide +kernel
theorem dX10_drop_46 : decode cX10_drop 46 = .ok (.iconst 1, 1) := by decide +kernel
theorem dX10_drop_47 : decode cX10_drop 47 = .ok (.iaload, 1) := by decide +kernel
theorem dX10_drop_48 : decode cX10_drop 48 = .ok (.iadd, 1) := by decide +kernel
theorem dX10_drop_49 : decode cX10_drop 49 = .ok (.iaload, 1) := by decide +kernel
theorem dX10_drop_50 : decode cX10_drop 50 = .ok (.i2l, 1) := by decide +kernel
theorem dX10_drop_51 : decode cX10_drop 51 = .ok (.lreturn, 1) := by decide +kernel
theorem dX10_versions_0 : decode cX10_versions 0 = .ok (.aload_n 0, 1) := by decide +kernel
theorem dX10_versions_1 : decode cX10_versions 1 = .ok (.getfield 7, 3) := by decide +kernel
theorem dX10_versions_4 : decode cX10_versions 4 = .ok (.iconst 1, 1) := by decide +kernel
theorem dX10_versions_5 : decode cX10_versions 5 = .ok (.iaload, 1) := by decide +kernel
theorem dX10_versions_6 : decode cX10_versions 6 = .ok (.ireturn, 1) := by decide +kernel
theorem dX10_at_0 : decode cX10_at 0 = .ok (.aload_n 0, 1) := by decide +kernel
theorem dX10_at_1 : decode cX10_at 1 = .ok (.iload_n 1, 1) := by decide +kernel
theorem dX10_at_2 : decode cX10_at 2 = .ok (.invokevirtual 103, 3) := by decide +kernel
theorem dX10_at_5 : decode cX10_at 5 = .ok (.ifCond .eq 20, 3) := by decide +kernel
theorem dX10_at_8 : decode cX10_at 8 = .ok (.aload_n 0, 1) := by decide +kernel
theorem dX10_at_9 : decode cX10_at 9 = .ok (.iload_n 2, 1) := by decide +kernel
theorem dX10_at_10 : decode cX10_at 10 = .ok (.invokevirtual 57, 3) := by decide +kernel
theorem dX10_at_13 : decode cX10_at 13 = .ok (.ifCond .eq 12, 3) := by decide +kernel
theorem dX10_at_16 : decode cX10_at 16 = .ok (.iload_n 3, 1) := by decide +kernel
theorem dX10_at_17 : decode cX10_at 17 = .ok (.iconst 0, 1) := by decide +kernel
theorem dX10_at_18 : decode cX10_at 18 = .ok (.iconst 3, 1) := by decide +kernel
theorem dX10_at_19 : decode cX10_at 19 = .ok (.invokestatic 50, 3) := by decide +kernel
theorem dX10_at_22 : decode cX10_at 22 = .ok (.ifCond .ne 7, 3) := by decide +kernel
theorem dX10_at_25 : decode cX10_at 25 = .ok (.sipush (-1001), 3) := by decide +kernel
theorem dX10_at_28 : decode cX10_at 28 = .ok (.ireturn, 1) := by decide +kernel
theorem dX10_at_29 : decode cX10_at 29 = .ok (.aload_n 0, 1) := by decide +kernel
theorem dX10_at_30 : decode cX10_at 30 = .ok (.iload_n 1, 1) := by decide +kernel
theorem dX10_at_31 : decode cX10_at 31 = .ok (.invokevirtual 106, 3) := by decide +kernel
theorem dX10_at_34 : decode cX10_at 34 = .ok (.aload_n 0, 1) := by decide +kernel
theorem dX10_at_35 : decode cX10_at 35 = .ok (.invokevirtual 109, 3) := by decide +kernel
theorem dX10_at_38 : decode cX10_at 38 = .ok (.aload_n 0, 1) := by decide +kernel
theorem dX10_at_39 : decode cX10_at 39 = .ok (.iload_n 2, 1) := by decide +kernel
theorem dX10_at_40 : decode cX10_at 40 = .ok (.iload_n 3, 1) := by decide +kernel
theorem dX10_at_41 : decode cX10_at 41 = .ok (.invokevirtual 112, 3) := by decide +kernel
theorem dX10_at_44 : decode cX10_at 44 = .ok (.ireturn, 1) := by decide +kernel
theorem dX10_placeOf_0 : decode cX10_placeOf 0 = .ok (.iconst 0, 1) := by decide +kernel
theorem dX10_placeOf_1 : decode cX10_placeOf 1 = .ok (.istore_n 2, 1) := by decide +kernel
theorem dX10_placeOf_2 : decode cX10_placeOf 2 = .ok (.aload_n 0, 1) := by decide +kernel
theorem dX10_placeOf_3 : decode cX10_placeOf 3 = .ok (.getfield 16, 3) := by decide +kernel
theorem dX10_placeOf_6 : decode cX10_placeOf 6 = .ok (.iload_n 2, 1) := by decide +kernel
theorem dX10_placeOf_7 : decode cX10_placeOf 7 = .ok (.iaload, 1) := by decide +kernel
theorem dX10_placeOf_8 : decode cX10_placeOf 8 = .ok (.iload_n 1, 1) := by decide +kernel
theorem dX10_placeOf_9 : decode cX10_placeOf 9 = .ok (.if_icmp .eq 9, 3) := by decide +kernel
theorem dX10_placeOf_12 : decode cX10_placeOf 12 = .ok (.iinc 2 1, 3) := by decide +kernel
theorem dX10_placeOf_15 : decode cX10_placeOf 15 = .ok (.goto (-13), 3) := by decide +kernel
theorem dX10_placeOf_18 : decode cX10_placeOf 18 = .ok (.iload_n 2, 1) := by decide +kernel
theorem dX10_placeOf_19 : decode cX10_placeOf 19 = .ok (.ireturn, 1) := by decide +kernel
theorem dX10_where_0 : decode cX10_where 0 = .ok (.aload_n 0, 1) := by decide +kernel
theorem dX10_where_1 : decode cX10_where 1 = .ok (.iload_n 1, 1) := by decide +kernel
theorem dX10_where_2 : decode cX10_where 2 = .ok (.invokevirtual 103, 3) := by decide +kernel
theorem dX10_where_5 : decode cX10_where 5 = .ok (.ifCond .eq 11, 3) := by decide +kernel
theorem dX10_where_8 : decode cX10_where 8 = .ok (.aload_n 0, 1) := by decide +kernel
theorem dX10_where_9 : decode cX10_where 9 = .ok (.iload_n 2, 1) := by decide +kernel
theorem dX10_where_10 : decode cX10_where 10 = .ok (.invokevirtual 57, 3) := by decide +kernel
theorem dX10_where_13 : decode cX10_where 13 = .ok (.ifCond .ne 7, 3) := by decide +kernel
theorem dX10_where_16 : decode cX10_where 16 = .ok (.sipush (-1001), 3) := by decide +kernel
theorem dX10_where_19 : decode cX10_where 19 = .ok (.ireturn, 1) := by decide +kernel
theorem dX10_where_20 : decode cX10_where 20 = .ok (.aload_n 0, 1) := by decide +kernel
theorem dX10_where_21 : decode cX10_where 21 = .ok (.iload_n 1, 1) := by decide +kernel
theorem dX10_where_22 : decode cX10_where 22 = .ok (.invokevirtual 106, 3) := by decide +kernel
theorem dX10_where_25 : decode cX10_where 25 = .ok (.aload_n 0, 1) := by decide +kernel
theorem dX10_where_26 : decode cX10_where 26 = .ok (.iload_n 2, 1) := by decide +kernel
theorem dX10_where_27 : decode cX10_where 27 = .ok (.invokevirtual 115, 3) := by decide +kernel
theorem dX10_where_30 : decode cX10_where 30 = .ok (.ireturn, 1) := by decide +kernel
theorem dX10_choice_0 : decode cX10_choice 0 = .ok (.aload_n 0, 1) := by decide +kernel
theorem dX10_choice_1 : decode cX10_choice 1 = .ok (.iload_n 1, 1) := by decide +kernel
theorem dX10_choice_2 : decode cX10_choice 2 = .ok (.invokevirtual 103, 3) := by decide +kernel
theorem dX10_choice_5 : decode cX10_choice 5 = .ok (.ifCond .eq 11, 3) := by decide +kernel
theorem dX10_choice_8 : decode cX10_choice 8 = .ok (.aload_n 0, 1) := by decide +kernel
theorem dX10_choice_9 : decode cX10_choice 9 = .ok (.iload_n 2, 1) := by decide +kernel
theorem dX10_choice_10 : decode cX10_choice 10 = .ok (.invokevirtual 57, 3) := by decide +kernel
theorem dX10_choice_13 : decode cX10_choice 13 = .ok (.ifCond .ne 7, 3) := by decide +kernel
theorem dX10_choice_16 : decode cX10_choice 16 = .ok (.sipush (-1001), 3) := by decide +kernel
theorem dX10_choice_19 : decode cX10_choice 19 = .ok (.ireturn, 1) := by decide +kernel
theorem dX10_choice_20 : decode cX10_choice 20 = .ok (.aload_n 0, 1) := by decide +kernel
theorem dX10_choice_21 : decode cX10_choice 21 = .ok (.iload_n 1, 1) := by decide +kernel
theorem dX10_choice_22 : decode cX10_choice 22 = .ok (.invokevirtual 106, 3) := by decide +kernel
theorem dX10_choice_25 : decode cX10_choice 25 = .ok (.iload_n 3, 1) := by decide +kernel
theorem dX10_choice_26 : decode cX10_choice 26 = .ok (.iconst 0, 1) := by decide +kernel
theorem dX10_choice_27 : decode cX10_choice 27 = .ok (.aload_n 0, 1) := by decide +kernel
theorem dX10_choice_28 : decode cX10_choice 28 = .ok (.aload_n 0, 1) := by decide +kernel
theorem dX10_choice_29 : decode cX10_choice 29 = .ok (.getfield 16, 3) := by decide +kernel
theorem dX10_choice_32 : decode cX10_choice 32 = .ok (.iload_n 2, 1) := by decide +kernel
theorem dX10_choice_33 : decode cX10_choice 33 = .ok (.iaload, 1) := by decide +kernel
theorem dX10_choice_34 : decode cX10_choice 34 = .ok (.iconst 4, 1) := by decide +kernel
theorem dX10_choice_35 : decode cX10_choice 35 = .ok (.invokevirtual 61, 3) := by decide +kernel
theorem dX10_choice_38 : decode cX10_choice 38 = .ok (.iconst 1, 1) := by decide +kernel
theorem dX10_choice_39 : decode cX10_choice 39 = .ok (.isub, 1) := by decide +kernel
theorem dX10_choice_40 : decode cX10_choice 40 = .ok (.invokestatic 50, 3) := by decide +kernel
theorem dX10_choice_43 : decode cX10_choice 43 = .ok (.ifCond .eq 16, 3) := by decide +kernel
theorem dX10_choice_46 : decode cX10_choice 46 = .ok (.aload_n 0, 1) := by decide +kernel
theorem dX10_choice_47 : decode cX10_choice 47 = .ok (.getfield 22, 3) := by decide +kernel
theorem dX10_choice_50 : decode cX10_choice 50 = .ok (.iconst 5, 1) := by decide +kernel
theorem dX10_choice_51 : decode cX10_choice 51 = .ok (.iload_n 2, 1) := by decide +kernel
theorem dX10_choice_52 : decode cX10_choice 52 = .ok (.imul, 1) := by decide +kernel
theorem dX10_choice_53 : decode cX10_choice 53 = .ok (.iload_n 3, 1) := by decide +kernel
theorem dX10_choice_54 : decode cX10_choice 54 = .ok (.iadd, 1) := by decide +kernel
theorem dX10_choice_55 : decode cX10_choice 55 = .ok (.iaload, 1) := by decide +kernel
theorem dX10_choice_56 : decode cX10_choice 56 = .ok (.goto 6, 3) := by decide +kernel
theorem dX10_choice_59 : decode cX10_choice 59 = .ok (.sipush (-1001), 3) := by decide +kernel
theorem dX10_choice_62 : decode cX10_choice 62 = .ok (.ireturn, 1) := by decide +kernel
theorem dX10_puts_0 : decode cX10_puts 0 = .ok (.iconst 0, 1) := by decide +kernel
theorem dX10_puts_1 : decode cX10_puts 1 = .ok (.istore_n 1, 1) := by decide +kernel
theorem dX10_puts_2 : decode cX10_puts 2 = .ok (.iload_n 1, 1) := by decide +kernel
theorem dX10_puts_3 : decode cX10_puts 3 = .ok (.bipush 20, 2) := by decide +kernel
theorem dX10_puts_5 : decode cX10_puts 5 = .ok (.if_icmp .ge 33, 3) := by decide +kernel
theorem dX10_puts_8 : decode cX10_puts 8 = .ok (.aload_n 0, 1) := by decide +kernel
theorem dX10_puts_9 : decode cX10_puts 9 = .ok (.getfield 37, 3) := by decide +kernel
theorem dX10_puts_12 : decode cX10_puts 12 = .ok (.iload_n 1, 1) := by decide +kernel
theorem dX10_puts_13 : decode cX10_puts 13 = .ok (.aload_n 0, 1) := by decide +kernel
theorem dX10_puts_14 : decode cX10_puts 14 = .ok (.getfield 16, 3) := by decide +kernel
theorem dX10_puts_17 : decode cX10_puts 17 = .ok (.iload_n 1, 1) := by decide +kernel
theorem dX10_puts_18 : decode cX10_puts 18 = .ok (.iaload, 1) := by decide +kernel
theorem dX10_puts_19 : decode cX10_puts 19 = .ok (.iastore, 1) := by decide +kernel
theorem dX10_puts_20 : decode cX10_puts 20 = .ok (.aload_n 0, 1) := by decide +kernel
theorem dX10_puts_21 : decode cX10_puts 21 = .ok (.getfield 40, 3) := by decide +kernel
theorem dX10_puts_24 : decode cX10_puts 24 = .ok (.iload_n 1, 1) := by decide +kernel
theorem dX10_puts_25 : decode cX10_puts 25 = .ok (.aload_n 0, 1) := by decide +kernel
theorem dX10_puts_26 : decode cX10_puts 26 = .ok (.getfield 19, 3) := by decide +kernel
theorem dX10_puts_29 : decode cX10_puts 29 = .ok (.iload_n 1, 1) := by decide +kernel
theorem dX10_puts_30 : decode cX10_puts 30 = .ok (.iaload, 1) := by decide +kernel
theorem dX10_puts_31 : decode cX10_puts 31 = .ok (.iastore, 1) := by decide +kernel
theorem dX10_puts_32 : decode cX10_puts 32 = .ok (.iinc 1 1, 3) := by decide +kernel
theorem dX10_puts_35 : decode cX10_puts 35 = .ok (.goto (-33), 3) := by decide +kernel
theorem dX10_puts_38 : decode cX10_puts 38 = .ok (.return_, 1) := by decide +kernel
theorem dX10_common_0 : decode cX10_common 0 = .ok (.iconst 0, 1) := by decide +kernel
theorem dX10_common_1 : decode cX10_common 1 = .ok (.istore_n 2, 1) := by decide +kernel
theorem dX10_common_2 : decode cX10_common 2 = .ok (.iconst 0, 1) := by decide +kernel
theorem dX10_common_3 : decode cX10_common 3 = .ok (.istore_n 3, 1) := by decide +kernel
theorem dX10_common_4 : decode cX10_common 4 = .ok (.iload_n 3, 1) := by decide +kernel
theorem dX10_common_5 : decode cX10_common 5 = .ok (.aload_n 0, 1) := by decide +kernel
theorem dX10_common_6 : decode cX10_common 6 = .ok (.getfield 7, 3) := by decide +kernel
theorem dX10_common_9 : decode cX10_common 9 = .ok (.iconst 0, 1) := by decide +kernel
theorem dX10_common_10 : decode cX10_common 10 = .ok (.iaload, 1) := by decide +kernel
theorem dX10_common_11 : decode cX10_common 11 = .ok (.if_icmp .ge 135, 3) := by decide +kernel
theorem dX10_common_14 : decode cX10_common 14 = .ok (.iload_n 1, 1) := by decide +kernel
theorem dX10_common_15 : decode cX10_common 15 = .ok (.iconst 2, 1) := by decide +kernel
theorem dX10_common_16 : decode cX10_common 16 = .ok (.if_icmp .ne 74, 3) := by decide +kernel
theorem dX10_common_19 : decode cX10_common 19 = .ok (.iconst 1, 1) := by decide +kernel
theorem dX10_common_20 : decode cX10_common 20 = .ok (.istore 4, 2) := by decide +kernel
theorem dX10_common_22 : decode cX10_common 22 = .ok (.iload 4, 2) := by decide +kernel
theorem dX10_common_24 : decode cX10_common 24 = .ok (.aload_n 0, 1) := by decide +kernel
theorem dX10_common_25 : decode cX10_common 25 = .ok (.getfield 7, 3) := by decide +kernel
theorem dX10_common_28 : decode cX10_common 28 = .ok (.iconst 0, 1) := by decide +kernel
theorem dX10_common_29 : decode cX10_common 29 = .ok (.iaload, 1) := by decide +kernel
theorem dX10_common_30 : decode cX10_common 30 = .ok (.if_icmp .ge 57, 3) := by decide +kernel
theorem dX10_common_33 : decode cX10_common 33 = .ok (.iload_n 3, 1) := by decide +kernel
theorem dX10_common_34 : decode cX10_common 34 = .ok (.ifCond .le 53, 3) := by decide +kernel
theorem dX10_common_37 : decode cX10_common 37 = .ok (.iload_n 2, 1) := by decide +kernel
theorem dX10_common_38 : decode cX10_common 38 = .ok (.aload_n 0, 1) := by decide +kernel
theorem dX10_common_39 : decode cX10_common 39 = .ok (.getfield 16, 3) := by decide +kernel
theorem dX10_common_42 : decode cX10_common 42 = .ok (.iload_n 3, 1) := by decide +kernel
theorem dX10_common_43 : decode cX10_common 43 = .ok (.iaload, 1) := by decide +kernel
theorem dX10_common_44 : decode cX10_common 44 = .ok (.aload_n 0, 1) := by decide +kernel
theorem dX10_common_45 : decode cX10_common 45 = .ok (.getfield 37, 3) := by decide +kernel
theorem dX10_common_48 : decode cX10_common 48 = .ok (.iload 4, 2) := by decide +kernel
theorem dX10_common_50 : decode cX10_common 50 = .ok (.iaload, 1) := by decide +kernel
theorem dX10_common_51 : decode cX10_common 51 = .ok (.if_icmp .ne 27, 3) := by decide +kernel
theorem dX10_common_54 : decode cX10_common 54 = .ok (.aload_n 0, 1) := by decide +kernel
theorem dX10_common_55 : decode cX10_common 55 = .ok (.getfield 16, 3) := by decide +kernel
theorem dX10_common_58 : decode cX10_common 58 = .ok (.iload_n 3, 1) := by decide +kernel
theorem dX10_common_59 : decode cX10_common 59 = .ok (.iconst 1, 1) := by decide +kernel
theorem dX10_common_60 : decode cX10_common 60 = .ok (.isub, 1) := by decide +kernel
theorem dX10_common_61 : decode cX10_common 61 = .ok (.iaload, 1) := by decide +kernel
theorem dX10_common_62 : decode cX10_common 62 = .ok (.aload_n 0, 1) := by decide +kernel
theorem dX10_common_63 : decode cX10_common 63 = .ok (.getfield 37, 3) := by decide +kernel
theorem dX10_common_66 : decode cX10_common 66 = .ok (.iload 4, 2) := by decide +kernel
theorem dX10_common_68 : decode cX10_common 68 = .ok (.iconst 1, 1) := by decide +kernel
theorem dX10_common_69 : decode cX10_common 69 = .ok (.isub, 1) := by decide +kernel
theorem dX10_common_70 : decode cX10_common 70 = .ok (.iaload, 1) := by decide +kernel
theorem dX10_common_71 : decode cX10_common 71 = .ok (.if_icmp .ne 7, 3) := by decide +kernel
theorem dX10_common_74 : decode cX10_common 74 = .ok (.iconst 1, 1) := by decide +kernel
theorem dX10_common_75 : decode cX10_common 75 = .ok (.goto 4, 3) := by decide +kernel
theorem dX10_common_78 : decode cX10_common 78 = .ok (.iconst 0, 1) := by decide +kernel
theorem dX10_common_79 : decode cX10_common 79 = .ok (.iadd, 1) := by decide +kernel
theorem dX10_common_80 : decode cX10_common 80 = .ok (.istore_n 2, 1) := by decide +kernel
theorem dX10_common_81 : decode cX10_common 81 = .ok (.iinc 4 1, 3) := by decide +kernel
theorem dX10_common_84 : decode cX10_common 84 = .ok (.goto (-62), 3) := by decide +kernel
theorem dX10_common_87 : decode cX10_common 87 = .ok (.goto 53, 3) := by decide +kernel
theorem dX10_common_90 : decode cX10_common 90 = .ok (.iload_n 2, 1) := by decide +kernel
theorem dX10_common_91 : decode cX10_common 91 = .ok (.iload_n 1, 1) := by decide +kernel
theorem dX10_common_92 : decode cX10_common 92 = .ok (.ifCond .ne 26, 3) := by decide +kernel
theorem dX10_common_95 : decode cX10_common 95 = .ok (.aload_n 0, 1) := by decide +kernel
theorem dX10_common_96 : decode cX10_common 96 = .ok (.getfield 16, 3) := by decide +kernel
theorem dX10_common_99 : decode cX10_common 99 = .ok (.iload_n 3, 1) := by decide +kernel
theorem dX10_common_100 : decode cX10_common 100 = .ok (.iaload, 1) := by decide +kernel
theorem dX10_common_101 : decode cX10_common 101 = .ok (.aload_n 0, 1) := by decide +kernel
theorem dX10_common_102 : decode cX10_common 102 = .ok (.getfield 37, 3) := by decide +kernel
theorem dX10_common_105 : decode cX10_common 105 = .ok (.iload_n 3, 1) := by decide +kernel
theorem dX10_common_106 : decode cX10_common 106 = .ok (.iaload, 1) := by decide +kernel
theorem dX10_common_107 : decode cX10_common 107 = .ok (.if_icmp .ne 7, 3) := by decide +kernel
theorem dX10_common_110 : decode cX10_common 110 = .ok (.iconst 1, 1) := by decide +kernel
theorem dX10_common_111 : decode cX10_common 111 = .ok (.goto 27, 3) := by decide +kernel
theorem dX10_common_114 : decode cX10_common 114 = .ok (.iconst 0, 1) := by decide +kernel
theorem dX10_common_115 : decode cX10_common 115 = .ok (.goto 23, 3) := by decide +kernel
theorem dX10_common_118 : decode cX10_common 118 = .ok (.aload_n 0, 1) := by decide +kernel
theorem dX10_common_119 : decode cX10_common 119 = .ok (.getfield 19, 3) := by decide +kernel
theorem dX10_common_122 : decode cX10_common 122 = .ok (.iload_n 3, 1) := by decide +kernel
theorem dX10_common_123 : decode cX10_common 123 = .ok (.iaload, 1) := by decide +kernel
theorem dX10_common_124 : decode cX10_common 124 = .ok (.aload_n 0, 1) := by decide +kernel
theorem dX10_common_125 : decode cX10_common 125 = .ok (.getfield 40, 3) := by decide +kernel
theorem dX10_common_128 : decode cX10_common 128 = .ok (.iload_n 3, 1) := by decide +kernel
theorem dX10_common_129 : decode cX10_common 129 = .ok (.iaload, 1) := by decide +kernel
theorem dX10_common_130 : decode cX10_common 130 = .ok (.if_icmp .ne 7, 3) := by decide +kernel
theorem dX10_common_133 : decode cX10_common 133 = .ok (.iconst 1, 1) := by decide +kernel
theorem dX10_common_134 : decode cX10_common 134 = .ok (.goto 4, 3) := by decide +kernel
theorem dX10_common_137 : decode cX10_common 137 = .ok (.iconst 0, 1) := by decide +kernel
theorem dX10_common_138 : decode cX10_common 138 = .ok (.iadd, 1) := by decide +kernel
theorem dX10_common_139 : decode cX10_common 139 = .ok (.istore_n 2, 1) := by decide +kernel
theorem dX10_common_140 : decode cX10_common 140 = .ok (.iinc 3 1, 3) := by decide +kernel
theorem dX10_common_143 : decode cX10_common 143 = .ok (.goto (-139), 3) := by decide +kernel
theorem dX10_common_146 : decode cX10_common 146 = .ok (.iload_n 2, 1) := by decide +kernel
theorem dX10_common_147 : decode cX10_common 147 = .ok (.ireturn, 1) := by decide +kernel
theorem dX10_alike_0 : decode cX10_alike 0 = .ok (.aload_n 0, 1) := by decide +kernel
theorem dX10_alike_1 : decode cX10_alike 1 = .ok (.iload_n 1, 1) := by decide +kernel
theorem dX10_alike_2 : decode cX10_alike 2 = .ok (.invokevirtual 103, 3) := by decide +kernel
theorem dX10_alike_5 : decode cX10_alike 5 = .ok (.ifCond .eq 20, 3) := by decide +kernel
theorem dX10_alike_8 : decode cX10_alike 8 = .ok (.aload_n 0, 1) := by decide +kernel
theorem dX10_alike_9 : decode cX10_alike 9 = .ok (.iload_n 2, 1) := by decide +kernel
theorem dX10_alike_10 : decode cX10_alike 10 = .ok (.invokevirtual 103, 3) := by decide +kernel
theorem dX10_alike_13 : decode cX10_alike 13 = .ok (.ifCond .eq 12, 3) := by decide +kernel
theorem dX10_alike_16 : decode cX10_alike 16 = .ok (.iload_n 3, 1) := by decide +kernel
theorem dX10_alike_17 : decode cX10_alike 17 = .ok (.iconst 0, 1) := by decide +kernel
theorem dX10_alike_18 : decode cX10_alike 18 = .ok (.iconst 2, 1) := by decide +kernel
theorem dX10_alike_19 : decode cX10_alike 19 = .ok (.invokestatic 50, 3) := by decide +kernel
theorem dX10_alike_22 : decode cX10_alike 22 = .ok (.ifCond .ne 7, 3) := by decide +kernel
theorem dX10_alike_25 : decode cX10_alike 25 = .ok (.sipush (-1001), 3) := by decide +kernel
theorem dX10_alike_28 : decode cX10_alike 28 = .ok (.ireturn, 1) := by decide +kernel
theorem dX10_alike_29 : decode cX10_alike 29 = .ok (.aload_n 0, 1) := by decide +kernel
theorem dX10_alike_30 : decode cX10_alike 30 = .ok (.iload_n 1, 1) := by decide +kernel
theorem dX10_alike_31 : decode cX10_alike 31 = .ok (.invokevirtual 106, 3) := by decide +kernel
theorem dX10_alike_34 : decode cX10_alike 34 = .ok (.aload_n 0, 1) := by decide +kernel
theorem dX10_alike_35 : decode cX10_alike 35 = .ok (.invokevirtual 118, 3) := by decide +kernel
theorem dX10_alike_38 : decode cX10_alike 38 = .ok (.aload_n 0, 1) := by decide +kernel
theorem dX10_alike_39 : decode cX10_alike 39 = .ok (.iload_n 2, 1) := by decide +kernel
theorem dX10_alike_40 : decode cX10_alike 40 = .ok (.invokevirtual 106, 3) := by decide +kernel
theorem dX10_alike_43 : decode cX10_alike 43 = .ok (.aload_n 0, 1) := by decide +kernel
theorem dX10_alike_44 : decode cX10_alike 44 = .ok (.iload_n 3, 1) := by decide +kernel
theorem dX10_alike_45 : decode cX10_alike 45 = .ok (.invokevirtual 121, 3) := by decide +kernel
theorem dX10_alike_48 : decode cX10_alike 48 = .ok (.ireturn, 1) := by decide +kernel
theorem dX10_unlike_0 : decode cX10_unlike 0 = .ok (.iload_n 2, 1) := by decide +kernel
theorem dX10_unlike_1 : decode cX10_unlike 1 = .ok (.iconst 1, 1) := by decide +kernel
theorem dX10_unlike_2 : decode cX10_unlike 2 = .ok (.bipush 40, 2) := by decide +kernel
theorem dX10_unlike_4 : decode cX10_unlike 4 = .ok (.invokestatic 50, 3) := by decide +kernel
theorem dX10_unlike_7 : decode cX10_unlike 7 = .ok (.ifCond .ne 7, 3) := by decide +kernel
theorem dX10_unlike_10 : decode cX10_unlike 10 = .ok (.ldc2_w 124, 3) := by decide +kernel
theorem dX10_unlike_13 : decode cX10_unlike 13 = .ok (.lreturn, 1) := by decide +kernel
theorem dX10_unlike_14 : decode cX10_unlike 14 = .ok (.iload_n 1, 1) := by decide +kernel
theorem dX10_unlike_15 : decode cX10_unlike 15 = .ok (.istore_n 3, 1) := by decide +kernel
theorem dX10_unlike_16 : decode cX10_unlike 16 = .ok (.bipush 99, 2) := by decide +kernel
theorem dX10_unlike_18 : decode cX10_unlike 18 = .ok (.istore 4, 2) := by decide +kernel
theorem dX10_unlike_20 : decode cX10_unlike 20 = .ok (.iconst 0, 1) := by decide +kernel
theorem dX10_unlike_21 : decode cX10_unlike 21 = .ok (.istore 5, 2) := by decide +kernel
theorem dX10_unlike_23 : decode cX10_unlike 23 = .ok (.iload 5, 2) := by decide +kernel
theorem dX10_unlike_25 : decode cX10_unlike 25 = .ok (.iload_n 2, 1) := by decide +kernel
theorem dX10_unlike_26 : decode cX10_unlike 26 = .ok (.if_icmp .ge 104, 3) := by decide +kernel
theorem dX10_unlike_29 : decode cX10_unlike 29 = .ok (.aload_n 0, 1) := by decide +kernel
theorem dX10_unlike_30 : decode cX10_unlike 30 = .ok (.iload_n 1, 1) := by decide +kernel
theorem dX10_unlike_31 : decode cX10_unlike 31 = .ok (.iload 5, 2) := by decide +kernel
theorem dX10_unlike_33 : decode cX10_unlike 33 = .ok (.iadd, 1) := by decide +kernel
theorem dX10_unlike_34 : decode cX10_unlike 34 = .ok (.invokevirtual 92, 3) := by decide +kernel
theorem dX10_unlike_37 : decode cX10_unlike 37 = .ok (.aload_n 0, 1) := by decide +kernel
theorem dX10_unlike_38 : decode cX10_unlike 38 = .ok (.invokevirtual 118, 3) := by decide +kernel
theorem dX10_unlike_41 : decode cX10_unlike 41 = .ok (.iconst 0, 1) := by decide +kernel
theorem dX10_unlike_42 : decode cX10_unlike 42 = .ok (.istore 6, 2) := by decide +kernel
theorem dX10_unlike_44 : decode cX10_unlike 44 = .ok (.iconst 0, 1) := by decide +kernel
theorem dX10_unlike_45 : decode cX10_unlike 45 = .ok (.istore 7, 2) := by decide +kernel
theorem dX10_unlike_47 : decode cX10_unlike 47 = .ok (.iload 7, 2) := by decide +kernel
theorem dX10_unlike_49 : decode cX10_unlike 49 = .ok (.aload_n 0, 1) := by decide +kernel
theorem dX10_unlike_50 : decode cX10_unlike 50 = .ok (.getfield 7, 3) := by decide +kernel
theorem dX10_unlike_53 : decode cX10_unlike 53 = .ok (.iconst 1, 1) := by decide +kernel
theorem dX10_unlike_54 : decode cX10_unlike 54 = .ok (.iaload, 1) := by decide +kernel
theorem dX10_unlike_55 : decode cX10_unlike 55 = .ok (.if_icmp .ge 37, 3) := by decide +kernel
theorem dX10_unlike_58 : decode cX10_unlike 58 = .ok (.aload_n 0, 1) := by decide +kernel
theorem dX10_unlike_59 : decode cX10_unlike 59 = .ok (.iload 7, 2) := by decide +kernel
theorem dX10_unlike_61 : decode cX10_unlike 61 = .ok (.invokevirtual 106, 3) := by decide +kernel
theorem dX10_unlike_64 : decode cX10_unlike 64 = .ok (.aload_n 0, 1) := by decide +kernel
theorem dX10_unlike_65 : decode cX10_unlike 65 = .ok (.iconst 1, 1) := by decide +kernel
theorem dX10_unlike_66 : decode cX10_unlike 66 = .ok (.invokevirtual 121, 3) := by decide +kernel
theorem dX10_unlike_69 : decode cX10_unlike 69 = .ok (.iload 6, 2) := by decide +kernel
theorem dX10_unlike_71 : decode cX10_unlike 71 = .ok (.if_icmp .le 11, 3) := by decide +kernel
theorem dX10_unlike_74 : decode cX10_unlike 74 = .ok (.aload_n 0, 1) := by decide +kernel
theorem dX10_unlike_75 : decode cX10_unlike 75 = .ok (.iconst 1, 1) := by decide +kernel
theorem dX10_unlike_76 : decode cX10_unlike 76 = .ok (.invokevirtual 121, 3) := by decide +kernel
theorem dX10_unlike_79 : decode cX10_unlike 79 = .ok (.goto 5, 3) := by decide +kernel
theorem dX10_unlike_82 : decode cX10_unlike 82 = .ok (.iload 6, 2) := by decide +kernel
theorem dX10_unlike_84 : decode cX10_unlike 84 = .ok (.istore 6, 2) := by decide +kernel
theorem dX10_unlike_86 : decode cX10_unlike 86 = .ok (.iinc 7 1, 3) := by decide +kernel
theorem dX10_unlike_89 : decode cX10_unlike 89 = .ok (.goto (-42), 3) := by decide +kernel
theorem dX10_unlike_92 : decode cX10_unlike 92 = .ok (.iload 6, 2) := by decide +kernel
theorem dX10_unlike_94 : decode cX10_unlike 94 = .ok (.iload 4, 2) := by decide +kernel
theorem dX10_unlike_96 : decode cX10_unlike 96 = .ok (.if_icmp .ge 10, 3) := by decide +kernel
theorem dX10_unlike_99 : decode cX10_unlike 99 = .ok (.iload_n 1, 1) := by decide +kernel
theorem dX10_unlike_100 : decode cX10_unlike 100 = .ok (.iload 5, 2) := by decide +kernel
theorem dX10_unlike_102 : decode cX10_unlike 102 = .ok (.iadd, 1) := by decide +kernel
theorem dX10_unlike_103 : decode cX10_unlike 103 = .ok (.goto 4, 3) := by decide +kernel
theorem dX10_unlike_106 : decode cX10_unlike 106 = .ok (.iload_n 3, 1) := by decide +kernel
theorem dX10_unlike_107 : decode cX10_unlike 107 = .ok (.istore_n 3, 1) := by decide +kernel
theorem dX10_unlike_108 : decode cX10_unlike 108 = .ok (.iload 6, 2) := by decide +kernel
theorem dX10_unlike_110 : decode cX10_unlike 110 = .ok (.iload 4, 2) := by decide +kernel
theorem dX10_unlike_112 : decode cX10_unlike 112 = .ok (.if_icmp .ge 8, 3) := by decide +kernel
theorem dX10_unlike_115 : decode cX10_unlike 115 = .ok (.iload 6, 2) := by decide +kernel
theorem dX10_unlike_117 : decode cX10_unlike 117 = .ok (.goto 5, 3) := by decide +kernel
theorem dX10_unlike_120 : decode cX10_unlike 120 = .ok (.iload 4, 2) := by decide +kernel
theorem dX10_unlike_122 : decode cX10_unlike 122 = .ok (.istore 4, 2) := by decide +kernel
theorem dX10_unlike_124 : decode cX10_unlike 124 = .ok (.iinc 5 1, 3) := by decide +kernel
theorem dX10_unlike_127 : decode cX10_unlike 127 = .ok (.goto (-104), 3) := by decide +kernel
theorem dX10_unlike_130 : decode cX10_unlike 130 = .ok (.iload_n 3, 1) := by decide +kernel
theorem dX10_unlike_131 : decode cX10_unlike 131 = .ok (.i2l, 1) := by decide +kernel
theorem dX10_unlike_132 : decode cX10_unlike 132 = .ok (.lreturn, 1) := by decide +kernel
theorem dX10_setLines_0 : decode cX10_setLines 0 = .ok (.iload_n 1, 1) := by decide +kernel
theorem dX10_setLines_1 : decode cX10_setLines 1 = .ok (.bipush 9, 2) := by decide +kernel
theorem dX10_setLines_3 : decode cX10_setLines 3 = .ok (.bipush 60, 2) := by decide +kernel
theorem dX10_setLines_5 : decode cX10_setLines 5 = .ok (.invokestatic 50, 3) := by decide +kernel
theorem dX10_setLines_8 : decode cX10_setLines 8 = .ok (.ifCond .eq 12, 3) := by decide +kernel
theorem dX10_setLines_11 : decode cX10_setLines 11 = .ok (.aload_n 0, 1) := by decide +kernel
theorem dX10_setLines_12 : decode cX10_setLines 12 = .ok (.iconst 2, 1) := by decide +kernel
theorem dX10_setLines_13 : decode cX10_setLines 13 = .ok (.iload_n 1, 1) := by decide +kernel
theorem dX10_setLines_14 : decode cX10_setLines 14 = .ok (.invokevirtual 68, 3) := by decide +kernel
theorem dX10_setLines_17 : decode cX10_setLines 17 = .ok (.goto 6, 3) := by decide +kernel
theorem dX10_setLines_20 : decode cX10_setLines 20 = .ok (.sipush (-1001), 3) := by decide +kernel
theorem dX10_setLines_23 : decode cX10_setLines 23 = .ok (.ireturn, 1) := by decide +kernel
theorem dX10_pages_0 : decode cX10_pages 0 = .ok (.aload_n 0, 1) := by decide +kernel
theorem dX10_pages_1 : decode cX10_pages 1 = .ok (.iload_n 1, 1) := by decide +kernel
theorem dX10_pages_2 : decode cX10_pages 2 = .ok (.invokevirtual 103, 3) := by decide +kernel
theorem dX10_pages_5 : decode cX10_pages 5 = .ok (.ifCond .ne 7, 3) := by decide +kernel
theorem dX10_pages_8 : decode cX10_pages 8 = .ok (.sipush (-1001), 3) := by decide +kernel
theorem dX10_pages_11 : decode cX10_pages 11 = .ok (.ireturn, 1) := by decide +kernel
theorem dX10_pages_12 : decode cX10_pages 12 = .ok (.aload_n 0, 1) := by decide +kernel
theorem dX10_pages_13 : decode cX10_pages 13 = .ok (.iload_n 1, 1) := by decide +kernel
theorem dX10_pages_14 : decode cX10_pages 14 = .ok (.invokevirtual 106, 3) := by decide +kernel
theorem dX10_pages_17 : decode cX10_pages 17 = .ok (.aload_n 0, 1) := by decide +kernel
theorem dX10_pages_18 : decode cX10_pages 18 = .ok (.invokevirtual 109, 3) := by decide +kernel
theorem dX10_pages_21 : decode cX10_pages 21 = .ok (.aload_n 0, 1) := by decide +kernel
theorem dX10_pages_22 : decode cX10_pages 22 = .ok (.getfield 98, 3) := by decide +kernel
theorem dX10_pages_25 : decode cX10_pages 25 = .ok (.ireturn, 1) := by decide +kernel
theorem dX10_page_0 : decode cX10_page 0 = .ok (.aload_n 0, 1) := by decide +kernel
theorem dX10_page_1 : decode cX10_page 1 = .ok (.iload_n 1, 1) := by decide +kernel
theorem dX10_page_2 : decode cX10_page 2 = .ok (.invokevirtual 103, 3) := by decide +kernel
theorem dX10_page_5 : decode cX10_page 5 = .ok (.ifCond .eq 12, 3) := by decide +kernel
theorem dX10_page_8 : decode cX10_page 8 = .ok (.iload_n 3, 1) := by decide +kernel
theorem dX10_page_9 : decode cX10_page 9 = .ok (.iconst 0, 1) := by decide +kernel
theorem dX10_page_10 : decode cX10_page 10 = .ok (.iconst 1, 1) := by decide +kernel
theorem dX10_page_11 : decode cX10_page 11 = .ok (.invokestatic 50, 3) := by decide +kernel
theorem dX10_page_14 : decode cX10_page 14 = .ok (.ifCond .ne 7, 3) := by decide +kernel
theorem dX10_page_17 : decode cX10_page 17 = .ok (.sipush (-1001), 3) := by decide +kernel
theorem dX10_page_20 : decode cX10_page 20 = .ok (.ireturn, 1) := by decide +kernel
theorem dX10_page_21 : decode cX10_page 21 = .ok (.aload_n 0, 1) := by decide +kernel
theorem dX10_page_22 : decode cX10_page 22 = .ok (.iload_n 1, 1) := by decide +kernel
theorem dX10_page_23 : decode cX10_page 23 = .ok (.invokevirtual 106, 3) := by decide +kernel
theorem dX10_page_26 : decode cX10_page 26 = .ok (.aload_n 0, 1) := by decide +kernel
theorem dX10_page_27 : decode cX10_page 27 = .ok (.invokevirtual 109, 3) := by decide +kernel
theorem dX10_page_30 : decode cX10_page 30 = .ok (.iconst 0, 1) := by decide +kernel
theorem dX10_page_31 : decode cX10_page 31 = .ok (.istore 4, 2) := by decide +kernel
theorem dX10_page_33 : decode cX10_page 33 = .ok (.iconst 0, 1) := by decide +kernel
theorem dX10_page_34 : decode cX10_page 34 = .ok (.istore 5, 2) := by decide +kernel
theorem dX10_page_36 : decode cX10_page 36 = .ok (.iconst 0, 1) := by decide +kernel
theorem dX10_page_37 : decode cX10_page 37 = .ok (.istore 6, 2) := by decide +kernel
theorem dX10_page_39 : decode cX10_page 39 = .ok (.iload 6, 2) := by decide +kernel
theorem dX10_page_41 : decode cX10_page 41 = .ok (.aload_n 0, 1) := by decide +kernel
theorem dX10_page_42 : decode cX10_page 42 = .ok (.getfield 7, 3) := by decide +kernel
theorem dX10_page_45 : decode cX10_page 45 = .ok (.iconst 0, 1) := by decide +kernel
theorem dX10_page_46 : decode cX10_page 46 = .ok (.iaload, 1) := by decide +kernel
theorem dX10_page_47 : decode cX10_page 47 = .ok (.if_icmp .ge 40, 3) := by decide +kernel
theorem dX10_page_50 : decode cX10_page 50 = .ok (.aload_n 0, 1) := by decide +kernel
theorem dX10_page_51 : decode cX10_page 51 = .ok (.getfield 31, 3) := by decide +kernel
theorem dX10_page_54 : decode cX10_page 54 = .ok (.iload 6, 2) := by decide +kernel
theorem dX10_page_56 : decode cX10_page 56 = .ok (.iaload, 1) := by decide +kernel
theorem dX10_page_57 : decode cX10_page 57 = .ok (.iload_n 2, 1) := by decide +kernel
theorem dX10_page_58 : decode cX10_page 58 = .ok (.if_icmp .ne 23, 3) := by decide +kernel
theorem dX10_page_61 : decode cX10_page 61 = .ok (.iinc 4 1, 3) := by decide +kernel
theorem dX10_page_64 : decode cX10_page 64 = .ok (.iload 5, 2) := by decide +kernel
theorem dX10_page_66 : decode cX10_page 66 = .ok (.aload_n 0, 1) := by decide +kernel
theorem dX10_page_67 : decode cX10_page 67 = .ok (.aload_n 0, 1) := by decide +kernel
theorem dX10_page_68 : decode cX10_page 68 = .ok (.getfield 16, 3) := by decide +kernel
theorem dX10_page_71 : decode cX10_page 71 = .ok (.iload 6, 2) := by decide +kernel
theorem dX10_page_73 : decode cX10_page 73 = .ok (.iaload, 1) := by decide +kernel
theorem dX10_page_74 : decode cX10_page 74 = .ok (.iconst 0, 1) := by decide +kernel
theorem dX10_page_75 : decode cX10_page 75 = .ok (.invokevirtual 61, 3) := by decide +kernel
theorem dX10_page_78 : decode cX10_page 78 = .ok (.iadd, 1) := by decide +kernel
theorem dX10_page_79 : decode cX10_page 79 = .ok (.istore 5, 2) := by decide +kernel
theorem dX10_page_81 : decode cX10_page 81 = .ok (.iinc 6 1, 3) := by decide +kernel
theorem dX10_page_84 : decode cX10_page 84 = .ok (.goto (-45), 3) := by decide +kernel
theorem dX10_page_87 : decode cX10_page 87 = .ok (.iload_n 2, 1) := by decide +kernel
theorem dX10_page_88 : decode cX10_page 88 = .ok (.iconst 0, 1) := by decide +kernel
theorem dX10_page_89 : decode cX10_page 89 = .ok (.aload_n 0, 1) := by decide +kernel
theorem dX10_page_90 : decode cX10_page 90 = .ok (.getfield 98, 3) := by decide +kernel
theorem dX10_page_93 : decode cX10_page 93 = .ok (.iconst 1, 1) := by decide +kernel
theorem dX10_page_94 : decode cX10_page 94 = .ok (.isub, 1) := by decide +kernel
theorem dX10_page_95 : decode cX10_page 95 = .ok (.invokestatic 50, 3) := by decide +kernel
theorem dX10_page_98 : decode cX10_page 98 = .ok (.ifCond .ne 9, 3) := by decide +kernel
theorem dX10_page_101 : decode cX10_page 101 = .ok (.sipush (-1001), 3) := by decide +kernel
theorem dX10_page_104 : decode cX10_page 104 = .ok (.goto 14, 3) := by decide +kernel
theorem dX10_page_107 : decode cX10_page 107 = .ok (.iload_n 3, 1) := by decide +kernel
theorem dX10_page_108 : decode cX10_page 108 = .ok (.ifCond .ne 8, 3) := by decide +kernel
theorem dX10_page_111 : decode cX10_page 111 = .ok (.iload 4, 2) := by decide +kernel
theorem dX10_page_113 : decode cX10_page 113 = .ok (.goto 5, 3) := by decide +kernel
theorem dX10_page_116 : decode cX10_page 116 = .ok (.iload 5, 2) := by decide +kernel
theorem dX10_page_118 : decode cX10_page 118 = .ok (.ireturn, 1) := by decide +kernel
theorem dX10_type_0 : decode cX10_type 0 = .ok (.iload_n 1, 1) := by decide +kernel
theorem dX10_type_1 : decode cX10_type 1 = .ok (.bipush 32, 2) := by decide +kernel
theorem dX10_type_3 : decode cX10_type 3 = .ok (.bipush 126, 2) := by decide +kernel
theorem dX10_type_5 : decode cX10_type 5 = .ok (.invokestatic 50, 3) := by decide +kernel
theorem dX10_type_8 : decode cX10_type 8 = .ok (.ifCond .ne 7, 3) := by decide +kernel
theorem dX10_type_11 : decode cX10_type 11 = .ok (.sipush (-1001), 3) := by decide +kernel
theorem dX10_type_14 : decode cX10_type 14 = .ok (.ireturn, 1) := by decide +kernel
theorem dX10_type_15 : decode cX10_type 15 = .ok (.aload_n 0, 1) := by decide +kernel
theorem dX10_type_16 : decode cX10_type 16 = .ok (.getfield 126, 3) := by decide +kernel
theorem dX10_type_19 : decode cX10_type 19 = .ok (.bipush 20, 2) := by decide +kernel
theorem dX10_type_21 : decode cX10_type 21 = .ok (.if_icmp .ne 7, 3) := by decide +kernel
theorem dX10_type_24 : decode cX10_type 24 = .ok (.sipush (-1003), 3) := by decide +kernel
theorem dX10_type_27 : decode cX10_type 27 = .ok (.ireturn, 1) := by decide +kernel
theorem dX10_type_28 : decode cX10_type 28 = .ok (.aload_n 0, 1) := by decide +kernel
theorem dX10_type_29 : decode cX10_type 29 = .ok (.getfield 43, 3) := by decide +kernel
theorem dX10_type_32 : decode cX10_type 32 = .ok (.aload_n 0, 1) := by decide +kernel
theorem dX10_type_33 : decode cX10_type 33 = .ok (.getfield 126, 3) := by decide +kernel
theorem dX10_type_36 : decode cX10_type 36 = .ok (.iload_n 1, 1) := by decide +kernel
theorem dX10_type_37 : decode cX10_type 37 = .ok (.iastore, 1) := by decide +kernel
theorem dX10_type_38 : decode cX10_type 38 = .ok (.aload_n 0, 1) := by decide +kernel
theorem dX10_type_39 : decode cX10_type 39 = .ok (.dup, 1) := by decide +kernel
theorem dX10_type_40 : decode cX10_type 40 = .ok (.getfield 126, 3) := by decide +kernel
theorem dX10_type_43 : decode cX10_type 43 = .ok (.iconst 1, 1) := by decide +kernel
theorem dX10_type_44 : decode cX10_type 44 = .ok (.iadd, 1) := by decide +kernel
theorem dX10_type_45 : decode cX10_type 45 = .ok (.putfield 126, 3) := by decide +kernel
theorem dX10_type_48 : decode cX10_type 48 = .ok (.aload_n 0, 1) := by decide +kernel
theorem dX10_type_49 : decode cX10_type 49 = .ok (.getfield 126, 3) := by decide +kernel
theorem dX10_type_52 : decode cX10_type 52 = .ok (.ireturn, 1) := by decide +kernel
theorem dX10_clear_0 : decode cX10_clear 0 = .ok (.aload_n 0, 1) := by decide +kernel
theorem dX10_clear_1 : decode cX10_clear 1 = .ok (.getfield 126, 3) := by decide +kernel
theorem dX10_clear_4 : decode cX10_clear 4 = .ok (.istore_n 1, 1) := by decide +kernel
theorem dX10_clear_5 : decode cX10_clear 5 = .ok (.aload_n 0, 1) := by decide +kernel
theorem dX10_clear_6 : decode cX10_clear 6 = .ok (.iconst 0, 1) := by decide +kernel
theorem dX10_clear_7 : decode cX10_clear 7 = .ok (.putfield 126, 3) := by decide +kernel
theorem dX10_clear_10 : decode cX10_clear 10 = .ok (.iload_n 1, 1) := by decide +kernel
theorem dX10_clear_11 : decode cX10_clear 11 = .ok (.ireturn, 1) := by decide +kernel
theorem dX10_sheetAt_0 : decode cX10_sheetAt 0 = .ok (.bipush 116, 2) := by decide +kernel
theorem dX10_sheetAt_2 : decode cX10_sheetAt 2 = .ok (.bipush 21, 2) := by decide +kernel
theorem dX10_sheetAt_4 : decode cX10_sheetAt 4 = .ok (.iload_n 0, 1) := by decide +kernel
theorem dX10_sheetAt_5 : decode cX10_sheetAt 5 = .ok (.imul, 1) := by decide +kernel
theorem dX10_sheetAt_6 : decode cX10_sheetAt 6 = .ok (.iadd, 1) := by decide +kernel
theorem dX10_sheetAt_7 : decode cX10_sheetAt 7 = .ok (.ireturn, 1) := by decide +kernel
theorem dX10_wrongAt_0 : decode cX10_wrongAt 0 = .ok (.iconst 0, 1) := by decide +kernel
theorem dX10_wrongAt_1 : decode cX10_wrongAt 1 = .ok (.istore_n 1, 1) := by decide +kernel
theorem dX10_wrongAt_2 : decode cX10_wrongAt 2 = .ok (.iload_n 1, 1) := by decide +kernel
theorem dX10_wrongAt_3 : decode cX10_wrongAt 3 = .ok (.aload_n 0, 1) := by decide +kernel
theorem dX10_wrongAt_4 : decode cX10_wrongAt 4 = .ok (.getfield 126, 3) := by decide +kernel
theorem dX10_wrongAt_7 : decode cX10_wrongAt 7 = .ok (.if_icmp .ge 61, 3) := by decide +kernel
theorem dX10_wrongAt_10 : decode cX10_wrongAt 10 = .ok (.iload_n 1, 1) := by decide +kernel
theorem dX10_wrongAt_11 : decode cX10_wrongAt 11 = .ok (.aload_n 0, 1) := by decide +kernel
theorem dX10_wrongAt_12 : decode cX10_wrongAt 12 = .ok (.getfield 7, 3) := by decide +kernel
theorem dX10_wrongAt_15 : decode cX10_wrongAt 15 = .ok (.iconst 0, 1) := by decide +kernel
theorem dX10_wrongAt_16 : decode cX10_wrongAt 16 = .ok (.iaload, 1) := by decide +kernel
theorem dX10_wrongAt_17 : decode cX10_wrongAt 17 = .ok (.if_icmp .ge 43, 3) := by decide +kernel
theorem dX10_wrongAt_20 : decode cX10_wrongAt 20 = .ok (.aload_n 0, 1) := by decide +kernel
theorem dX10_wrongAt_21 : decode cX10_wrongAt 21 = .ok (.getfield 43, 3) := by decide +kernel
theorem dX10_wrongAt_24 : decode cX10_wrongAt 24 = .ok (.iload_n 1, 1) := by decide +kernel
theorem dX10_wrongAt_25 : decode cX10_wrongAt 25 = .ok (.iaload, 1) := by decide +kernel
theorem dX10_wrongAt_26 : decode cX10_wrongAt 26 = .ok (.bipush 45, 2) := by decide +kernel
theorem dX10_wrongAt_28 : decode cX10_wrongAt 28 = .ok (.if_icmp .eq 34, 3) := by decide +kernel
theorem dX10_wrongAt_31 : decode cX10_wrongAt 31 = .ok (.aload_n 0, 1) := by decide +kernel
theorem dX10_wrongAt_32 : decode cX10_wrongAt 32 = .ok (.getfield 43, 3) := by decide +kernel
theorem dX10_wrongAt_35 : decode cX10_wrongAt 35 = .ok (.iload_n 1, 1) := by decide +kernel
theorem dX10_wrongAt_36 : decode cX10_wrongAt 36 = .ok (.iaload, 1) := by decide +kernel
theorem dX10_wrongAt_37 : decode cX10_wrongAt 37 = .ok (.bipush 65, 2) := by decide +kernel
theorem dX10_wrongAt_39 : decode cX10_wrongAt 39 = .ok (.isub, 1) := by decide +kernel
theorem dX10_wrongAt_40 : decode cX10_wrongAt 40 = .ok (.iconst 0, 1) := by decide +kernel
theorem dX10_wrongAt_41 : decode cX10_wrongAt 41 = .ok (.aload_n 0, 1) := by decide +kernel
theorem dX10_wrongAt_42 : decode cX10_wrongAt 42 = .ok (.aload_n 0, 1) := by decide +kernel
theorem dX10_wrongAt_43 : decode cX10_wrongAt 43 = .ok (.getfield 16, 3) := by decide +kernel
theorem dX10_wrongAt_46 : decode cX10_wrongAt 46 = .ok (.iload_n 1, 1) := by decide +kernel
theorem dX10_wrongAt_47 : decode cX10_wrongAt 47 = .ok (.iaload, 1) := by decide +kernel
theorem dX10_wrongAt_48 : decode cX10_wrongAt 48 = .ok (.iconst 4, 1) := by decide +kernel
theorem dX10_wrongAt_49 : decode cX10_wrongAt 49 = .ok (.invokevirtual 61, 3) := by decide +kernel
theorem dX10_wrongAt_52 : decode cX10_wrongAt 52 = .ok (.iconst 1, 1) := by decide +kernel
theorem dX10_wrongAt_53 : decode cX10_wrongAt 53 = .ok (.isub, 1) := by decide +kernel
theorem dX10_wrongAt_54 : decode cX10_wrongAt 54 = .ok (.invokestatic 50, 3) := by decide +kernel
theorem dX10_wrongAt_57 : decode cX10_wrongAt 57 = .ok (.ifCond .ne 5, 3) := by decide +kernel
theorem dX10_wrongAt_60 : decode cX10_wrongAt 60 = .ok (.iload_n 1, 1) := by decide +kernel
theorem dX10_wrongAt_61 : decode cX10_wrongAt 61 = .ok (.ireturn, 1) := by decide +kernel
theorem dX10_wrongAt_62 : decode cX10_wrongAt 62 = .ok (.iinc 1 1, 3) := by decide +kernel
theorem dX10_wrongAt_65 : decode cX10_wrongAt 65 = .ok (.goto (-63), 3) := by decide +kernel
theorem dX10_wrongAt_68 : decode cX10_wrongAt 68 = .ok (.aload_n 0, 1) := by decide +kernel
theorem dX10_wrongAt_69 : decode cX10_wrongAt 69 = .ok (.getfield 126, 3) := by decide +kernel
theorem dX10_wrongAt_72 : decode cX10_wrongAt 72 = .ok (.aload_n 0, 1) := by decide +kernel
theorem dX10_wrongAt_73 : decode cX10_wrongAt 73 = .ok (.getfield 7, 3) := by decide +kernel
theorem dX10_wrongAt_76 : decode cX10_wrongAt 76 = .ok (.iconst 0, 1) := by decide +kernel
theorem dX10_wrongAt_77 : decode cX10_wrongAt 77 = .ok (.iaload, 1) := by decide +kernel
theorem dX10_wrongAt_78 : decode cX10_wrongAt 78 = .ok (.if_icmp .ge 10, 3) := by decide +kernel
theorem dX10_wrongAt_81 : decode cX10_wrongAt 81 = .ok (.aload_n 0, 1) := by decide +kernel
theorem dX10_wrongAt_82 : decode cX10_wrongAt 82 = .ok (.getfield 126, 3) := by decide +kernel
theorem dX10_wrongAt_85 : decode cX10_wrongAt 85 = .ok (.goto 4, 3) := by decide +kernel
theorem dX10_wrongAt_88 : decode cX10_wrongAt 88 = .ok (.iconst (-1), 1) := by decide +kernel
theorem dX10_wrongAt_89 : decode cX10_wrongAt 89 = .ok (.ireturn, 1) := by decide +kernel
theorem dX10_sheet_0 : decode cX10_sheet 0 = .ok (.aload_n 0, 1) := by decide +kernel
theorem dX10_sheet_1 : decode cX10_sheet 1 = .ok (.iload_n 1, 1) := by decide +kernel
theorem dX10_sheet_2 : decode cX10_sheet 2 = .ok (.invokevirtual 103, 3) := by decide +kernel
theorem dX10_sheet_5 : decode cX10_sheet 5 = .ok (.ifCond .ne 7, 3) := by decide +kernel
theorem dX10_sheet_8 : decode cX10_sheet 8 = .ok (.sipush (-1001), 3) := by decide +kernel
theorem dX10_sheet_11 : decode cX10_sheet 11 = .ok (.ireturn, 1) := by decide +kernel
theorem dX10_sheet_12 : decode cX10_sheet 12 = .ok (.aload_n 0, 1) := by decide +kernel
theorem dX10_sheet_13 : decode cX10_sheet 13 = .ok (.getfield 7, 3) := by decide +kernel
theorem dX10_sheet_16 : decode cX10_sheet 16 = .ok (.iconst 3, 1) := by decide +kernel
theorem dX10_sheet_17 : decode cX10_sheet 17 = .ok (.iaload, 1) := by decide +kernel
theorem dX10_sheet_18 : decode cX10_sheet 18 = .ok (.bipush 20, 2) := by decide +kernel
theorem dX10_sheet_20 : decode cX10_sheet 20 = .ok (.if_icmp .ne 7, 3) := by decide +kernel
theorem dX10_sheet_23 : decode cX10_sheet 23 = .ok (.sipush (-1003), 3) := by decide +kernel
theorem dX10_sheet_26 : decode cX10_sheet 26 = .ok (.ireturn, 1) := by decide +kernel
theorem dX10_sheet_27 : decode cX10_sheet 27 = .ok (.aload_n 0, 1) := by decide +kernel
theorem dX10_sheet_28 : decode cX10_sheet 28 = .ok (.iload_n 1, 1) := by decide +kernel
theorem dX10_sheet_29 : decode cX10_sheet 29 = .ok (.invokevirtual 106, 3) := by decide +kernel
theorem dX10_sheet_32 : decode cX10_sheet 32 = .ok (.aload_n 0, 1) := by decide +kernel
theorem dX10_sheet_33 : decode cX10_sheet 33 = .ok (.invokevirtual 129, 3) := by decide +kernel
theorem dX10_sheet_36 : decode cX10_sheet 36 = .ok (.istore_n 2, 1) := by decide +kernel
theorem dX10_sheet_37 : decode cX10_sheet 37 = .ok (.iload_n 2, 1) := by decide +kernel
theorem dX10_sheet_38 : decode cX10_sheet 38 = .ok (.ifCond .lt 8, 3) := by decide +kernel
theorem dX10_sheet_41 : decode cX10_sheet 41 = .ok (.bipush (-100), 2) := by decide +kernel
theorem dX10_sheet_43 : decode cX10_sheet 43 = .ok (.iload_n 2, 1) := by decide +kernel
theorem dX10_sheet_44 : decode cX10_sheet 44 = .ok (.isub, 1) := by decide +kernel
theorem dX10_sheet_45 : decode cX10_sheet 45 = .ok (.ireturn, 1) := by decide +kernel
theorem dX10_sheet_46 : decode cX10_sheet 46 = .ok (.aload_n 0, 1) := by decide +kernel
theorem dX10_sheet_47 : decode cX10_sheet 47 = .ok (.invokevirtual 54, 3) := by decide +kernel
theorem dX10_sheet_50 : decode cX10_sheet 50 = .ok (.aload_n 0, 1) := by decide +kernel
theorem dX10_sheet_51 : decode cX10_sheet 51 = .ok (.getfield 7, 3) := by decide +kernel
theorem dX10_sheet_54 : decode cX10_sheet 54 = .ok (.iconst 3, 1) := by decide +kernel
theorem dX10_sheet_55 : decode cX10_sheet 55 = .ok (.iaload, 1) := by decide +kernel
theorem dX10_sheet_56 : decode cX10_sheet 56 = .ok (.invokestatic 133, 3) := by decide +kernel
theorem dX10_sheet_59 : decode cX10_sheet 59 = .ok (.istore_n 3, 1) := by decide +kernel
theorem dX10_sheet_60 : decode cX10_sheet 60 = .ok (.aload_n 0, 1) := by decide +kernel
theorem dX10_sheet_61 : decode cX10_sheet 61 = .ok (.getfield 7, 3) := by decide +kernel
theorem dX10_sheet_64 : decode cX10_sheet 64 = .ok (.iload_n 3, 1) := by decide +kernel
theorem dX10_sheet_65 : decode cX10_sheet 65 = .ok (.iload_n 1, 1) := by decide +kernel
theorem dX10_sheet_66 : decode cX10_sheet 66 = .ok (.iastore, 1) := by decide +kernel
theorem dX10_sheet_67 : decode cX10_sheet 67 = .ok (.iconst 0, 1) := by decide +kernel
theorem dX10_sheet_68 : decode cX10_sheet 68 = .ok (.istore 4, 2) := by decide +kernel
theorem dX10_sheet_70 : decode cX10_sheet 70 = .ok (.iload 4, 2) := by decide +kernel
theorem dX10_sheet_72 : decode cX10_sheet 72 = .ok (.aload_n 0, 1) := by decide +kernel
theorem dX10_sheet_73 : decode cX10_sheet 73 = .ok (.getfield 7, 3) := by decide +kernel
theorem dX10_sheet_76 : decode cX10_sheet 76 = .ok (.iconst 0, 1) := by decide +kernel
theorem dX10_sheet_77 : decode cX10_sheet 77 = .ok (.iaload, 1) := by decide +kernel
theorem dX10_sheet_78 : decode cX10_sheet 78 = .ok (.if_icmp .ge 48, 3) := by decide +kernel
theorem dX10_sheet_81 : decode cX10_sheet 81 = .ok (.aload_n 0, 1) := by decide +kernel
theorem dX10_sheet_82 : decode cX10_sheet 82 = .ok (.getfield 7, 3) := by decide +kernel
theorem dX10_sheet_85 : decode cX10_sheet 85 = .ok (.iload_n 3, 1) := by decide +kernel
theorem dX10_sheet_86 : decode cX10_sheet 86 = .ok (.iconst 1, 1) := by decide +kernel
theorem dX10_sheet_87 : decode cX10_sheet 87 = .ok (.iadd, 1) := by decide +kernel
theorem dX10_sheet_88 : decode cX10_sheet 88 = .ok (.iload 4, 2) := by decide +kernel
theorem dX10_sheet_90 : decode cX10_sheet 90 = .ok (.iadd, 1) := by decide +kernel
theorem dX10_sheet_91 : decode cX10_sheet 91 = .ok (.aload_n 0, 1) := by decide +kernel
theorem dX10_sheet_92 : decode cX10_sheet 92 = .ok (.getfield 43, 3) := by decide +kernel
theorem dX10_sheet_95 : decode cX10_sheet 95 = .ok (.iload 4, 2) := by decide +kernel
theorem dX10_sheet_97 : decode cX10_sheet 97 = .ok (.iaload, 1) := by decide +kernel
theorem dX10_sheet_98 : decode cX10_sheet 98 = .ok (.bipush 45, 2) := by decide +kernel
theorem dX10_sheet_100 : decode cX10_sheet 100 = .ok (.if_icmp .ne 9, 3) := by decide +kernel
theorem dX10_sheet_103 : decode cX10_sheet 103 = .ok (.sipush (-1009), 3) := by decide +kernel
theorem dX10_sheet_106 : decode cX10_sheet 106 = .ok (.goto 13, 3) := by decide +kernel
theorem dX10_sheet_109 : decode cX10_sheet 109 = .ok (.aload_n 0, 1) := by decide +kernel
theorem dX10_sheet_110 : decode cX10_sheet 110 = .ok (.getfield 43, 3) := by decide +kernel
theorem dX10_sheet_113 : decode cX10_sheet 113 = .ok (.iload 4, 2) := by decide +kernel
theorem dX10_sheet_115 : decode cX10_sheet 115 = .ok (.iaload, 1) := by decide +kernel
theorem dX10_sheet_116 : decode cX10_sheet 116 = .ok (.bipush 65, 2) := by decide +kernel
theorem dX10_sheet_118 : decode cX10_sheet 118 = .ok (.isub, 1) := by decide +kernel
theorem dX10_sheet_119 : decode cX10_sheet 119 = .ok (.iastore, 1) := by decide +kernel
theorem dX10_sheet_120 : decode cX10_sheet 120 = .ok (.iinc 4 1, 3) := by decide +kernel
theorem dX10_sheet_123 : decode cX10_sheet 123 = .ok (.goto (-53), 3) := by decide +kernel
theorem dX10_sheet_126 : decode cX10_sheet 126 = .ok (.aload_n 0, 1) := by decide +kernel
theorem dX10_sheet_127 : decode cX10_sheet 127 = .ok (.iconst 0, 1) := by decide +kernel
theorem dX10_sheet_128 : decode cX10_sheet 128 = .ok (.putfield 126, 3) := by decide +kernel
theorem dX10_sheet_131 : decode cX10_sheet 131 = .ok (.aload_n 0, 1) := by decide +kernel
theorem dX10_sheet_132 : decode cX10_sheet 132 = .ok (.getfield 7, 3) := by decide +kernel
theorem dX10_sheet_135 : decode cX10_sheet 135 = .ok (.iconst 3, 1) := by decide +kernel
theorem dX10_sheet_136 : decode cX10_sheet 136 = .ok (.dup2, 1) := by decide +kernel
theorem dX10_sheet_137 : decode cX10_sheet 137 = .ok (.iaload, 1) := by decide +kernel
theorem dX10_sheet_138 : decode cX10_sheet 138 = .ok (.iconst 1, 1) := by decide +kernel
theorem dX10_sheet_139 : decode cX10_sheet 139 = .ok (.iadd, 1) := by decide +kernel
theorem dX10_sheet_140 : decode cX10_sheet 140 = .ok (.iastore, 1) := by decide +kernel
theorem dX10_sheet_141 : decode cX10_sheet 141 = .ok (.aload_n 0, 1) := by decide +kernel
theorem dX10_sheet_142 : decode cX10_sheet 142 = .ok (.getfield 7, 3) := by decide +kernel
theorem dX10_sheet_145 : decode cX10_sheet 145 = .ok (.iconst 3, 1) := by decide +kernel
theorem dX10_sheet_146 : decode cX10_sheet 146 = .ok (.iaload, 1) := by decide +kernel
theorem dX10_sheet_147 : decode cX10_sheet 147 = .ok (.iconst 1, 1) := by decide +kernel
theorem dX10_sheet_148 : decode cX10_sheet 148 = .ok (.isub, 1) := by decide +kernel
theorem dX10_sheet_149 : decode cX10_sheet 149 = .ok (.ireturn, 1) := by decide +kernel
theorem dX10_guess_0 : decode cX10_guess 0 = .ok (.aload_n 0, 1) := by decide +kernel
theorem dX10_guess_1 : decode cX10_guess 1 = .ok (.iload_n 1, 1) := by decide +kernel
theorem dX10_guess_2 : decode cX10_guess 2 = .ok (.invokevirtual 103, 3) := by decide +kernel
theorem dX10_guess_5 : decode cX10_guess 5 = .ok (.ifCond .eq 13, 3) := by decide +kernel
theorem dX10_guess_8 : decode cX10_guess 8 = .ok (.iload_n 3, 1) := by decide +kernel
theorem dX10_guess_9 : decode cX10_guess 9 = .ok (.iconst 0, 1) := by decide +kernel
theorem dX10_guess_10 : decode cX10_guess 10 = .ok (.bipush 10, 2) := by decide +kernel
theorem dX10_guess_12 : decode cX10_guess 12 = .ok (.invokestatic 50, 3) := by decide +kernel
theorem dX10_guess_15 : decode cX10_guess 15 = .ok (.ifCond .ne 7, 3) := by decide +kernel
theorem dX10_guess_18 : decode cX10_guess 18 = .ok (.sipush (-1001), 3) := by decide +kernel
theorem dX10_guess_21 : decode cX10_guess 21 = .ok (.ireturn, 1) := by decide +kernel
theorem dX10_guess_22 : decode cX10_guess 22 = .ok (.aload_n 0, 1) := by decide +kernel
theorem dX10_guess_23 : decode cX10_guess 23 = .ok (.getfield 7, 3) := by decide +kernel
theorem dX10_guess_26 : decode cX10_guess 26 = .ok (.iconst 3, 1) := by decide +kernel
theorem dX10_guess_27 : decode cX10_guess 27 = .ok (.iaload, 1) := by decide +kernel
theorem dX10_guess_28 : decode cX10_guess 28 = .ok (.bipush 20, 2) := by decide +kernel
theorem dX10_guess_30 : decode cX10_guess 30 = .ok (.if_icmp .ne 7, 3) := by decide +kernel
theorem dX10_guess_33 : decode cX10_guess 33 = .ok (.sipush (-1003), 3) := by decide +kernel
theorem dX10_guess_36 : decode cX10_guess 36 = .ok (.ireturn, 1) := by decide +kernel
theorem dX10_guess_37 : decode cX10_guess 37 = .ok (.aload_n 0, 1) := by decide +kernel
theorem dX10_guess_38 : decode cX10_guess 38 = .ok (.invokevirtual 54, 3) := by decide +kernel
theorem dX10_guess_41 : decode cX10_guess 41 = .ok (.aload_n 0, 1) := by decide +kernel
theorem dX10_guess_42 : decode cX10_guess 42 = .ok (.iload_n 1, 1) := by decide +kernel
theorem dX10_guess_43 : decode cX10_guess 43 = .ok (.invokevirtual 106, 3) := by decide +kernel
theorem dX10_guess_46 : decode cX10_guess 46 = .ok (.aload_n 0, 1) := by decide +kernel
theorem dX10_guess_47 : decode cX10_guess 47 = .ok (.getfield 7, 3) := by decide +kernel
theorem dX10_guess_50 : decode cX10_guess 50 = .ok (.iconst 3, 1) := by decide +kernel
theorem dX10_guess_51 : decode cX10_guess 51 = .ok (.iaload, 1) := by decide +kernel
theorem dX10_guess_52 : decode cX10_guess 52 = .ok (.invokestatic 133, 3) := by decide +kernel
theorem dX10_guess_55 : decode cX10_guess 55 = .ok (.istore 4, 2) := by decide +kernel
theorem dX10_guess_57 : decode cX10_guess 57 = .ok (.aload_n 0, 1) := by decide +kernel
theorem dX10_guess_58 : decode cX10_guess 58 = .ok (.getfield 7, 3) := by decide +kernel
theorem dX10_guess_61 : decode cX10_guess 61 = .ok (.iload 4, 2) := by decide +kernel
theorem dX10_guess_63 : decode cX10_guess 63 = .ok (.iload_n 1, 1) := by decide +kernel
theorem dX10_guess_64 : decode cX10_guess 64 = .ok (.iastore, 1) := by decide +kernel
theorem dX10_guess_65 : decode cX10_guess 65 = .ok (.aload_n 0, 1) := by decide +kernel
theorem dX10_guess_66 : decode cX10_guess 66 = .ok (.iload_n 2, 1) := by decide +kernel
theorem dX10_guess_67 : decode cX10_guess 67 = .ok (.putfield 72, 3) := by decide +kernel
theorem dX10_guess_70 : decode cX10_guess 70 = .ok (.iconst 0, 1) := by decide +kernel
theorem dX10_guess_71 : decode cX10_guess 71 = .ok (.istore 5, 2) := by decide +kernel
theorem dX10_guess_73 : decode cX10_guess 73 = .ok (.iload 5, 2) := by decide +kernel
theorem dX10_guess_75 : decode cX10_guess 75 = .ok (.aload_n 0, 1) := by decide +kernel
theorem dX10_guess_76 : decode cX10_guess 76 = .ok (.getfield 7, 3) := by decide +kernel
theorem dX10_guess_79 : decode cX10_guess 79 = .ok (.iconst 0, 1) := by decide +kernel
theorem dX10_guess_80 : decode cX10_guess 80 = .ok (.iaload, 1) := by decide +kernel
theorem dX10_guess_81 : decode cX10_guess 81 = .ok (.if_icmp .ge 69, 3) := by decide +kernel
theorem dX10_guess_84 : decode cX10_guess 84 = .ok (.aload_n 0, 1) := by decide +kernel
theorem dX10_guess_85 : decode cX10_guess 85 = .ok (.bipush 10, 2) := by decide +kernel
theorem dX10_guess_87 : decode cX10_guess 87 = .ok (.invokevirtual 78, 3) := by decide +kernel
theorem dX10_guess_90 : decode cX10_guess 90 = .ok (.iload_n 3, 1) := by decide +kernel
theorem dX10_guess_91 : decode cX10_guess 91 = .ok (.if_icmp .ge 7, 3) := by decide +kernel
theorem dX10_guess_94 : decode cX10_guess 94 = .ok (.iconst 1, 1) := by decide +kernel
theorem dX10_guess_95 : decode cX10_guess 95 = .ok (.goto 4, 3) := by decide +kernel
theorem dX10_guess_98 : decode cX10_guess 98 = .ok (.iconst 0, 1) := by decide +kernel
theorem dX10_guess_99 : decode cX10_guess 99 = .ok (.istore 6, 2) := by decide +kernel
theorem dX10_guess_101 : decode cX10_guess 101 = .ok (.aload_n 0, 1) := by decide +kernel
theorem dX10_guess_102 : decode cX10_guess 102 = .ok (.getfield 7, 3) := by decide +kernel
theorem dX10_guess_105 : decode cX10_guess 105 = .ok (.iload 4, 2) := by decide +kernel
theorem dX10_guess_107 : decode cX10_guess 107 = .ok (.iconst 1, 1) := by decide +kernel
theorem dX10_guess_108 : decode cX10_guess 108 = .ok (.iadd, 1) := by decide +kernel
theorem dX10_guess_109 : decode cX10_guess 109 = .ok (.iload 5, 2) := by decide +kernel
theorem dX10_guess_111 : decode cX10_guess 111 = .ok (.iadd, 1) := by decide +kernel
theorem dX10_guess_112 : decode cX10_guess 112 = .ok (.iload 6, 2) := by decide +kernel
theorem dX10_guess_114 : decode cX10_guess 114 = .ok (.ifCond .eq 13, 3) := by decide +kernel
theorem dX10_guess_117 : decode cX10_guess 117 = .ok (.aload_n 0, 1) := by decide +kernel
theorem dX10_guess_118 : decode cX10_guess 118 = .ok (.getfield 19, 3) := by decide +kernel
theorem dX10_guess_121 : decode cX10_guess 121 = .ok (.iload 5, 2) := by decide +kernel
theorem dX10_guess_123 : decode cX10_guess 123 = .ok (.iaload, 1) := by decide +kernel
theorem dX10_guess_124 : decode cX10_guess 124 = .ok (.goto 19, 3) := by decide +kernel
theorem dX10_guess_127 : decode cX10_guess 127 = .ok (.aload_n 0, 1) := by decide +kernel
theorem dX10_guess_128 : decode cX10_guess 128 = .ok (.aload_n 0, 1) := by decide +kernel
theorem dX10_guess_129 : decode cX10_guess 129 = .ok (.aload_n 0, 1) := by decide +kernel
theorem dX10_guess_130 : decode cX10_guess 130 = .ok (.getfield 16, 3) := by decide +kernel
theorem dX10_guess_133 : decode cX10_guess 133 = .ok (.iload 5, 2) := by decide +kernel
theorem dX10_guess_135 : decode cX10_guess 135 = .ok (.iaload, 1) := by decide +kernel
theorem dX10_guess_136 : decode cX10_guess 136 = .ok (.iconst 4, 1) := by decide +kernel
theorem dX10_guess_137 : decode cX10_guess 137 = .ok (.invokevirtual 61, 3) := by decide +kernel
theorem dX10_guess_140 : decode cX10_guess 140 = .ok (.invokevirtual 78, 3) := by decide +kernel
theorem dX10_guess_143 : decode cX10_guess 143 = .ok (.iastore, 1) := by decide +kernel
theorem dX10_guess_144 : decode cX10_guess 144 = .ok (.iinc 5 1, 3) := by decide +kernel
theorem dX10_guess_147 : decode cX10_guess 147 = .ok (.goto (-74), 3) := by decide +kernel
theorem dX10_guess_150 : decode cX10_guess 150 = .ok (.aload_n 0, 1) := by decide +kernel
theorem dX10_guess_151 : decode cX10_guess 151 = .ok (.getfield 7, 3) := by decide +kernel
theorem dX10_guess_154 : decode cX10_guess 154 = .ok (.iconst 3, 1) := by decide +kernel
theorem dX10_guess_155 : decode cX10_guess 155 = .ok (.dup2, 1) := by decide +kernel
theorem dX10_guess_156 : decode cX10_guess 156 = .ok (.iaload, 1) := by decide +kernel
theorem dX10_guess_157 : decode cX10_guess 157 = .ok (.iconst 1, 1) := by decide +kernel
theorem dX10_guess_158 : decode cX10_guess 158 = .ok (.iadd, 1) := by decide +kernel
theorem dX10_guess_159 : decode cX10_guess 159 = .ok (.iastore, 1) := by decide +kernel
theorem dX10_guess_160 : decode cX10_guess 160 = .ok (.aload_n 0, 1) := by decide +kernel
theorem dX10_guess_161 : decode cX10_guess 161 = .ok (.getfield 7, 3) := by decide +kernel
theorem dX10_guess_164 : decode cX10_guess 164 = .ok (.iconst 3, 1) := by decide +kernel
theorem dX10_guess_165 : decode cX10_guess 165 = .ok (.iaload, 1) := by decide +kernel
theorem dX10_guess_166 : decode cX10_guess 166 = .ok (.iconst 1, 1) := by decide +kernel
theorem dX10_guess_167 : decode cX10_guess 167 = .ok (.isub, 1) := by decide +kernel
theorem dX10_guess_168 : decode cX10_guess 168 = .ok (.ireturn, 1) := by decide +kernel
theorem dX10_forget_0 : decode cX10_forget 0 = .ok (.aload_n 0, 1) := by decide +kernel
theorem dX10_forget_1 : decode cX10_forget 1 = .ok (.invokevirtual 54, 3) := by decide +kernel
theorem dX10_forget_4 : decode cX10_forget 4 = .ok (.aload_n 0, 1) := by decide +kernel
theorem dX10_forget_5 : decode cX10_forget 5 = .ok (.getfield 7, 3) := by decide +kernel
theorem dX10_forget_8 : decode cX10_forget 8 = .ok (.iconst 3, 1) := by decide +kernel
theorem dX10_forget_9 : decode cX10_forget 9 = .ok (.iaload, 1) := by decide +kernel
theorem dX10_forget_10 : decode cX10_forget 10 = .ok (.istore_n 1, 1) := by decide +kernel
theorem dX10_forget_11 : decode cX10_forget 11 = .ok (.aload_n 0, 1) := by decide +kernel
theorem dX10_forget_12 : decode cX10_forget 12 = .ok (.getfield 7, 3) := by decide +kernel
theorem dX10_forget_15 : decode cX10_forget 15 = .ok (.iconst 3, 1) := by decide +kernel
theorem dX10_forget_16 : decode cX10_forget 16 = .ok (.iconst 0, 1) := by decide +kernel
theorem dX10_forget_17 : decode cX10_forget 17 = .ok (.iastore, 1) := by decide +kernel
theorem dX10_forget_18 : decode cX10_forget 18 = .ok (.iload_n 1, 1) := by decide +kernel
theorem dX10_forget_19 : decode cX10_forget 19 = .ok (.ireturn, 1) := by decide +kernel
theorem dX10_counts_0 : decode cX10_counts 0 = .ok (.iconst 0, 1) := by decide +kernel
theorem dX10_counts_1 : decode cX10_counts 1 = .ok (.istore_n 2, 1) := by decide +kernel
theorem dX10_counts_2 : decode cX10_counts 2 = .ok (.iconst 0, 1) := by decide +kernel
theorem dX10_counts_3 : decode cX10_counts 3 = .ok (.istore_n 3, 1) := by decide +kernel
theorem dX10_counts_4 : decode cX10_counts 4 = .ok (.iload_n 3, 1) := by decide +kernel
theorem dX10_counts_5 : decode cX10_counts 5 = .ok (.aload_n 0, 1) := by decide +kernel
theorem dX10_counts_6 : decode cX10_counts 6 = .ok (.getfield 7, 3) := by decide +kernel
theorem dX10_counts_9 : decode cX10_counts 9 = .ok (.iconst 0, 1) := by decide +kernel
theorem dX10_counts_10 : decode cX10_counts 10 = .ok (.iaload, 1) := by decide +kernel
theorem dX10_counts_11 : decode cX10_counts 11 = .ok (.if_icmp .ge 56, 3) := by decide +kernel
theorem dX10_counts_14 : decode cX10_counts 14 = .ok (.aload_n 0, 1) := by decide +kernel
theorem dX10_counts_15 : decode cX10_counts 15 = .ok (.getfield 7, 3) := by decide +kernel
theorem dX10_counts_18 : decode cX10_counts 18 = .ok (.iload_n 1, 1) := by decide +kernel
theorem dX10_counts_19 : decode cX10_counts 19 = .ok (.invokestatic 133, 3) := by decide +kernel
theorem dX10_counts_22 : decode cX10_counts 22 = .ok (.iconst 1, 1) := by decide +kernel
theorem dX10_counts_23 : decode cX10_counts 23 = .ok (.iadd, 1) := by decide +kernel
theorem dX10_counts_24 : decode cX10_counts 24 = .ok (.iload_n 3, 1) := by decide +kernel
theorem dX10_counts_25 : decode cX10_counts 25 = .ok (.iadd, 1) := by decide +kernel
theorem dX10_counts_26 : decode cX10_counts 26 = .ok (.iaload, 1) := by decide +kernel
theorem dX10_counts_27 : decode cX10_counts 27 = .ok (.istore 4, 2) := by decide +kernel
theorem dX10_counts_29 : decode cX10_counts 29 = .ok (.iload_n 2, 1) := by decide +kernel
theorem dX10_counts_30 : decode cX10_counts 30 = .ok (.iload 4, 2) := by decide +kernel
theorem dX10_counts_32 : decode cX10_counts 32 = .ok (.sipush (-1009), 3) := by decide +kernel
theorem dX10_counts_35 : decode cX10_counts 35 = .ok (.if_icmp .ne 7, 3) := by decide +kernel
theorem dX10_counts_38 : decode cX10_counts 38 = .ok (.iconst 0, 1) := by decide +kernel
theorem dX10_counts_39 : decode cX10_counts 39 = .ok (.goto 20, 3) := by decide +kernel
theorem dX10_counts_42 : decode cX10_counts 42 = .ok (.iload 4, 2) := by decide +kernel
theorem dX10_counts_44 : decode cX10_counts 44 = .ok (.aload_n 0, 1) := by decide +kernel
theorem dX10_counts_45 : decode cX10_counts 45 = .ok (.getfield 19, 3) := by decide +kernel
theorem dX10_counts_48 : decode cX10_counts 48 = .ok (.iload_n 3, 1) := by decide +kernel
theorem dX10_counts_49 : decode cX10_counts 49 = .ok (.iaload, 1) := by decide +kernel
theorem dX10_counts_50 : decode cX10_counts 50 = .ok (.if_icmp .ne 8, 3) := by decide +kernel
theorem dX10_counts_53 : decode cX10_counts 53 = .ok (.bipush 100, 2) := by decide +kernel
theorem dX10_counts_55 : decode cX10_counts 55 = .ok (.goto 4, 3) := by decide +kernel
theorem dX10_counts_58 : decode cX10_counts 58 = .ok (.iconst 1, 1) := by decide +kernel
theorem dX10_counts_59 : decode cX10_counts 59 = .ok (.iadd, 1) := by decide +kernel
theorem dX10_counts_60 : decode cX10_counts 60 = .ok (.istore_n 2, 1) := by decide +kernel
theorem dX10_counts_61 : decode cX10_counts 61 = .ok (.iinc 3 1, 3) := by decide +kernel
theorem dX10_counts_64 : decode cX10_counts 64 = .ok (.goto (-60), 3) := by decide +kernel
theorem dX10_counts_67 : decode cX10_counts 67 = .ok (.iload_n 2, 1) := by decide +kernel
theorem dX10_counts_68 : decode cX10_counts 68 = .ok (.ireturn, 1) := by decide +kernel
theorem dX10_countsOwn_0 : decode cX10_countsOwn 0 = .ok (.aload_n 0, 1) := by decide +kernel
theorem dX10_countsOwn_1 : decode cX10_countsOwn 1 = .ok (.aload_n 0, 1) := by decide +kernel
theorem dX10_countsOwn_2 : decode cX10_countsOwn 2 = .ok (.getfield 7, 3) := by decide +kernel
theorem dX10_countsOwn_5 : decode cX10_countsOwn 5 = .ok (.iload_n 1, 1) := by decide +kernel
theorem dX10_countsOwn_6 : decode cX10_countsOwn 6 = .ok (.invokestatic 133, 3) := by decide +kernel
theorem dX10_countsOwn_9 : decode cX10_countsOwn 9 = .ok (.iaload, 1) := by decide +kernel
theorem dX10_countsOwn_10 : decode cX10_countsOwn 10 = .ok (.invokevirtual 106, 3) := by decide +kernel
theorem dX10_countsOwn_13 : decode cX10_countsOwn 13 = .ok (.aload_n 0, 1) := by decide +kernel
theorem dX10_countsOwn_14 : decode cX10_countsOwn 14 = .ok (.iload_n 1, 1) := by decide +kernel
theorem dX10_countsOwn_15 : decode cX10_countsOwn 15 = .ok (.invokevirtual 136, 3) := by decide +kernel
theorem dX10_countsOwn_18 : decode cX10_countsOwn 18 = .ok (.ireturn, 1) := by decide +kernel
theorem dX10_pointsBy_0 : decode cX10_pointsBy 0 = .ok (.iconst 4, 1) := by decide +kernel
theorem dX10_pointsBy_1 : decode cX10_pointsBy 1 = .ok (.iload_n 0, 1) := by decide +kernel
theorem dX10_pointsBy_2 : decode cX10_pointsBy 2 = .ok (.bipush 100, 2) := by decide +kernel
theorem dX10_pointsBy_4 : decode cX10_pointsBy 4 = .ok (.idiv, 1) := by decide +kernel
theorem dX10_pointsBy_5 : decode cX10_pointsBy 5 = .ok (.imul, 1) := by decide +kernel
theorem dX10_pointsBy_6 : decode cX10_pointsBy 6 = .ok (.iload_n 0, 1) := by decide +kernel
theorem dX10_pointsBy_7 : decode cX10_pointsBy 7 = .ok (.bipush 100, 2) := by decide +kernel
theorem dX10_pointsBy_9 : decode cX10_pointsBy 9 = .ok (.irem, 1) := by decide +kernel
theorem dX10_pointsBy_10 : decode cX10_pointsBy 10 = .ok (.isub, 1) := by decide +kernel
theorem dX10_pointsBy_11 : decode cX10_pointsBy 11 = .ok (.ireturn, 1) := by decide +kernel
theorem dX10_points_0 : decode cX10_points 0 = .ok (.aload_n 0, 1) := by decide +kernel
theorem dX10_points_1 : decode cX10_points 1 = .ok (.iload_n 1, 1) := by decide +kernel
theorem dX10_points_2 : decode cX10_points 2 = .ok (.invokevirtual 139, 3) := by decide +kernel
theorem dX10_points_5 : decode cX10_points 5 = .ok (.invokestatic 142, 3) := by decide +kernel
theorem dX10_points_8 : decode cX10_points 8 = .ok (.ireturn, 1) := by decide +kernel
theorem dX10_rank_0 : decode cX10_rank 0 = .ok (.aload_n 0, 1) := by decide +kernel
theorem dX10_rank_1 : decode cX10_rank 1 = .ok (.iload_n 1, 1) := by decide +kernel
theorem dX10_rank_2 : decode cX10_rank 2 = .ok (.invokevirtual 145, 3) := by decide +kernel
theorem dX10_rank_5 : decode cX10_rank 5 = .ok (.istore_n 2, 1) := by decide +kernel
theorem dX10_rank_6 : decode cX10_rank 6 = .ok (.iconst 1, 1) := by decide +kernel
theorem dX10_rank_7 : decode cX10_rank 7 = .ok (.istore_n 3, 1) := by decide +kernel
theorem dX10_rank_8 : decode cX10_rank 8 = .ok (.iconst 0, 1) := by decide +kernel
theorem dX10_rank_9 : decode cX10_rank 9 = .ok (.istore 4, 2) := by decide +kernel
theorem dX10_rank_11 : decode cX10_rank 11 = .ok (.iload 4, 2) := by decide +kernel
theorem dX10_rank_13 : decode cX10_rank 13 = .ok (.aload_n 0, 1) := by decide +kernel
theorem dX10_rank_14 : decode cX10_rank 14 = .ok (.getfield 7, 3) := by decide +kernel
theorem dX10_rank_17 : decode cX10_rank 17 = .ok (.iconst 3, 1) := by decide +kernel
theorem dX10_rank_18 : decode cX10_rank 18 = .ok (.iaload, 1) := by decide +kernel
theorem dX10_rank_19 : decode cX10_rank 19 = .ok (.if_icmp .ge 27, 3) := by decide +kernel
theorem dX10_rank_22 : decode cX10_rank 22 = .ok (.iload_n 3, 1) := by decide +kernel
theorem dX10_rank_23 : decode cX10_rank 23 = .ok (.aload_n 0, 1) := by decide +kernel
theorem dX10_rank_24 : decode cX10_rank 24 = .ok (.iload 4, 2) := by decide +kernel
theorem dX10_rank_26 : decode cX10_rank 26 = .ok (.invokevirtual 145, 3) := by decide +kernel
theorem dX10_rank_29 : decode cX10_rank 29 = .ok (.iload_n 2, 1) := by decide +kernel
theorem dX10_rank_30 : decode cX10_rank 30 = .ok (.if_icmp .le 7, 3) := by decide +kernel
theorem dX10_rank_33 : decode cX10_rank 33 = .ok (.iconst 1, 1) := by decide +kernel
theorem dX10_rank_34 : decode cX10_rank 34 = .ok (.goto 4, 3) := by decide +kernel
theorem dX10_rank_37 : decode cX10_rank 37 = .ok (.iconst 0, 1) := by decide +kernel
theorem dX10_rank_38 : decode cX10_rank 38 = .ok (.iadd, 1) := by decide +kernel
theorem dX10_rank_39 : decode cX10_rank 39 = .ok (.istore_n 3, 1) := by decide +kernel
theorem dX10_rank_40 : decode cX10_rank 40 = .ok (.iinc 4 1, 3) := by decide +kernel
theorem dX10_rank_43 : decode cX10_rank 43 = .ok (.goto (-32), 3) := by decide +kernel
theorem dX10_rank_46 : decode cX10_rank 46 = .ok (.iload_n 3, 1) := by decide +kernel
theorem dX10_rank_47 : decode cX10_rank 47 = .ok (.ireturn, 1) := by decide +kernel
theorem dX10_resultOf_0 : decode cX10_resultOf 0 = .ok (.iload_n 2, 1) := by decide +kernel
theorem dX10_resultOf_1 : decode cX10_resultOf 1 = .ok (.tableswitch 65 0 3 #[31, 41, 47, 56], 31) := by decide +kernel
theorem dX10_resultOf_32 : decode cX10_resultOf 32 = .ok (.aload_n 0, 1) := by decide +kernel
theorem dX10_resultOf_33 : decode cX10_resultOf 33 = .ok (.getfield 7, 3) := by decide +kernel
theorem dX10_resultOf_36 : decode cX10_resultOf 36 = .ok (.iload_n 1, 1) := by decide +kernel
theorem dX10_resultOf_37 : decode cX10_resultOf 37 = .ok (.invokestatic 133, 3) := by decide +kernel
theorem dX10_resultOf_40 : decode cX10_resultOf 40 = .ok (.iaload, 1) := by decide +kernel
theorem dX10_resultOf_41 : decode cX10_resultOf 41 = .ok (.ireturn, 1) := by decide +kernel
theorem dX10_resultOf_42 : decode cX10_resultOf 42 = .ok (.aload_n 0, 1) := by decide +kernel
theorem dX10_resultOf_43 : decode cX10_resultOf 43 = .ok (.iload_n 1, 1) := by decide +kernel
theorem dX10_resultOf_44 : decode cX10_resultOf 44 = .ok (.invokevirtual 145, 3) := by decide +kernel
theorem dX10_resultOf_47 : decode cX10_resultOf 47 = .ok (.ireturn, 1) := by decide +kernel
theorem dX10_resultOf_48 : decode cX10_resultOf 48 = .ok (.aload_n 0, 1) := by decide +kernel
theorem dX10_resultOf_49 : decode cX10_resultOf 49 = .ok (.iload_n 1, 1) := by decide +kernel
theorem dX10_resultOf_50 : decode cX10_resultOf 50 = .ok (.invokevirtual 139, 3) := by decide +kernel
theorem dX10_resultOf_53 : decode cX10_resultOf 53 = .ok (.bipush 100, 2) := by decide +kernel
theorem dX10_resultOf_55 : decode cX10_resultOf 55 = .ok (.idiv, 1) := by decide +kernel
theorem dX10_resultOf_56 : decode cX10_resultOf 56 = .ok (.ireturn, 1) := by decide +kernel
theorem dX10_resultOf_57 : decode cX10_resultOf 57 = .ok (.aload_n 0, 1) := by decide +kernel
theorem dX10_resultOf_58 : decode cX10_resultOf 58 = .ok (.iload_n 1, 1) := by decide +kernel
theorem dX10_resultOf_59 : decode cX10_resultOf 59 = .ok (.invokevirtual 139, 3) := by decide +kernel
theorem dX10_resultOf_62 : decode cX10_resultOf 62 = .ok (.bipush 100, 2) := by decide +kernel
theorem dX10_resultOf_64 : decode cX10_resultOf 64 = .ok (.irem, 1) := by decide +kernel
theorem dX10_resultOf_65 : decode cX10_resultOf 65 = .ok (.ireturn, 1) := by decide +kernel
theorem dX10_resultOf_66 : decode cX10_resultOf 66 = .ok (.aload_n 0, 1) := by decide +kernel
theorem dX10_resultOf_67 : decode cX10_resultOf 67 = .ok (.iload_n 1, 1) := by decide +kernel
theorem dX10_resultOf_68 : decode cX10_resultOf 68 = .ok (.invokevirtual 148, 3) := by decide +kernel
theorem dX10_resultOf_71 : decode cX10_resultOf 71 = .ok (.ireturn, 1) := by decide +kernel
theorem dX10_result_0 : decode cX10_result 0 = .ok (.aload_n 0, 1) := by decide +kernel
theorem dX10_result_1 : decode cX10_result 1 = .ok (.iload_n 1, 1) := by decide +kernel
theorem dX10_result_2 : decode cX10_result 2 = .ok (.invokevirtual 151, 3) := by decide +kernel
theorem dX10_result_5 : decode cX10_result 5 = .ok (.ifCond .eq 21, 3) := by decide +kernel
theorem dX10_result_8 : decode cX10_result 8 = .ok (.iload_n 2, 1) := by decide +kernel
theorem dX10_result_9 : decode cX10_result 9 = .ok (.iconst 0, 1) := by decide +kernel
theorem dX10_result_10 : decode cX10_result 10 = .ok (.iconst 4, 1) := by decide +kernel
theorem dX10_result_11 : decode cX10_result 11 = .ok (.invokestatic 50, 3) := by decide +kernel
theorem dX10_result_14 : decode cX10_result 14 = .ok (.ifCond .eq 12, 3) := by decide +kernel
theorem dX10_result_17 : decode cX10_result 17 = .ok (.aload_n 0, 1) := by decide +kernel
theorem dX10_result_18 : decode cX10_result 18 = .ok (.iload_n 1, 1) := by decide +kernel
theorem dX10_result_19 : decode cX10_result 19 = .ok (.iload_n 2, 1) := by decide +kernel
theorem dX10_result_20 : decode cX10_result 20 = .ok (.invokevirtual 154, 3) := by decide +kernel
theorem dX10_result_23 : decode cX10_result 23 = .ok (.goto 6, 3) := by decide +kernel
theorem dX10_result_26 : decode cX10_result 26 = .ok (.sipush (-1001), 3) := by decide +kernel
theorem dX10_result_29 : decode cX10_result 29 = .ok (.ireturn, 1) := by decide +kernel
theorem dX10_answerOf_0 : decode cX10_answerOf 0 = .ok (.aload_n 0, 1) := by decide +kernel
theorem dX10_answerOf_1 : decode cX10_answerOf 1 = .ok (.aload_n 0, 1) := by decide +kernel
theorem dX10_answerOf_2 : decode cX10_answerOf 2 = .ok (.getfield 7, 3) := by decide +kernel
theorem dX10_answerOf_5 : decode cX10_answerOf 5 = .ok (.iload_n 1, 1) := by decide +kernel
theorem dX10_answerOf_6 : decode cX10_answerOf 6 = .ok (.invokestatic 133, 3) := by decide +kernel
theorem dX10_answerOf_9 : decode cX10_answerOf 9 = .ok (.iaload, 1) := by decide +kernel
theorem dX10_answerOf_10 : decode cX10_answerOf 10 = .ok (.invokevirtual 106, 3) := by decide +kernel
theorem dX10_answerOf_13 : decode cX10_answerOf 13 = .ok (.aload_n 0, 1) := by decide +kernel
theorem dX10_answerOf_14 : decode cX10_answerOf 14 = .ok (.iload_n 2, 1) := by decide +kernel
theorem dX10_answerOf_15 : decode cX10_answerOf 15 = .ok (.invokevirtual 115, 3) := by decide +kernel
theorem dX10_answerOf_18 : decode cX10_answerOf 18 = .ok (.istore_n 3, 1) := by decide +kernel
theorem dX10_answerOf_19 : decode cX10_answerOf 19 = .ok (.aload_n 0, 1) := by decide +kernel
theorem dX10_answerOf_20 : decode cX10_answerOf 20 = .ok (.getfield 7, 3) := by decide +kernel
theorem dX10_answerOf_23 : decode cX10_answerOf 23 = .ok (.iload_n 1, 1) := by decide +kernel
theorem dX10_answerOf_24 : decode cX10_answerOf 24 = .ok (.invokestatic 133, 3) := by decide +kernel
theorem dX10_answerOf_27 : decode cX10_answerOf 27 = .ok (.iconst 1, 1) := by decide +kernel
theorem dX10_answerOf_28 : decode cX10_answerOf 28 = .ok (.iadd, 1) := by decide +kernel
theorem dX10_answerOf_29 : decode cX10_answerOf 29 = .ok (.iload_n 3, 1) := by decide +kernel
theorem dX10_answerOf_30 : decode cX10_answerOf 30 = .ok (.iadd, 1) := by decide +kernel
theorem dX10_answerOf_31 : decode cX10_answerOf 31 = .ok (.iaload, 1) := by decide +kernel
theorem dX10_answerOf_32 : decode cX10_answerOf 32 = .ok (.istore 4, 2) := by decide +kernel
theorem dX10_answerOf_34 : decode cX10_answerOf 34 = .ok (.iload 4, 2) := by decide +kernel
theorem dX10_answerOf_36 : decode cX10_answerOf 36 = .ok (.sipush (-1009), 3) := by decide +kernel
theorem dX10_answerOf_39 : decode cX10_answerOf 39 = .ok (.if_icmp .ne 9, 3) := by decide +kernel
theorem dX10_answerOf_42 : decode cX10_answerOf 42 = .ok (.sipush (-1009), 3) := by decide +kernel
theorem dX10_answerOf_45 : decode cX10_answerOf 45 = .ok (.goto 14, 3) := by decide +kernel
theorem dX10_answerOf_48 : decode cX10_answerOf 48 = .ok (.aload_n 0, 1) := by decide +kernel
theorem dX10_answerOf_49 : decode cX10_answerOf 49 = .ok (.getfield 22, 3) := by decide +kernel
theorem dX10_answerOf_52 : decode cX10_answerOf 52 = .ok (.iconst 5, 1) := by decide +kernel
theorem dX10_answerOf_53 : decode cX10_answerOf 53 = .ok (.iload_n 3, 1) := by decide +kernel
theorem dX10_answerOf_54 : decode cX10_answerOf 54 = .ok (.imul, 1) := by decide +kernel
theorem dX10_answerOf_55 : decode cX10_answerOf 55 = .ok (.iload 4, 2) := by decide +kernel
theorem dX10_answerOf_57 : decode cX10_answerOf 57 = .ok (.iadd, 1) := by decide +kernel
theorem dX10_answerOf_58 : decode cX10_answerOf 58 = .ok (.iaload, 1) := by decide +kernel
theorem dX10_answerOf_59 : decode cX10_answerOf 59 = .ok (.ireturn, 1) := by decide +kernel
theorem dX10_answer_0 : decode cX10_answer 0 = .ok (.aload_n 0, 1) := by decide +kernel
theorem dX10_answer_1 : decode cX10_answer 1 = .ok (.iload_n 1, 1) := by decide +kernel
theorem dX10_answer_2 : decode cX10_answer 2 = .ok (.invokevirtual 151, 3) := by decide +kernel
theorem dX10_answer_5 : decode cX10_answer 5 = .ok (.ifCond .eq 20, 3) := by decide +kernel
theorem dX10_answer_8 : decode cX10_answer 8 = .ok (.aload_n 0, 1) := by decide +kernel
theorem dX10_answer_9 : decode cX10_answer 9 = .ok (.iload_n 2, 1) := by decide +kernel
theorem dX10_answer_10 : decode cX10_answer 10 = .ok (.invokevirtual 57, 3) := by decide +kernel
theorem dX10_answer_13 : decode cX10_answer 13 = .ok (.ifCond .eq 12, 3) := by decide +kernel
theorem dX10_answer_16 : decode cX10_answer 16 = .ok (.aload_n 0, 1) := by decide +kernel
theorem dX10_answer_17 : decode cX10_answer 17 = .ok (.iload_n 1, 1) := by decide +kernel
theorem dX10_answer_18 : decode cX10_answer 18 = .ok (.iload_n 2, 1) := by decide +kernel
theorem dX10_answer_19 : decode cX10_answer 19 = .ok (.invokevirtual 157, 3) := by decide +kernel
theorem dX10_answer_22 : decode cX10_answer 22 = .ok (.goto 6, 3) := by decide +kernel
theorem dX10_answer_25 : decode cX10_answer 25 = .ok (.sipush (-1001), 3) := by decide +kernel
theorem dX10_answer_28 : decode cX10_answer 28 = .ok (.ireturn, 1) := by decide +kernel
theorem dX10_taken_0 : decode cX10_taken 0 = .ok (.iconst 0, 1) := by decide +kernel
theorem dX10_taken_1 : decode cX10_taken 1 = .ok (.istore_n 3, 1) := by decide +kernel
theorem dX10_taken_2 : decode cX10_taken 2 = .ok (.iconst 0, 1) := by decide +kernel
theorem dX10_taken_3 : decode cX10_taken 3 = .ok (.istore 4, 2) := by decide +kernel
theorem dX10_taken_5 : decode cX10_taken 5 = .ok (.iload 4, 2) := by decide +kernel
theorem dX10_taken_7 : decode cX10_taken 7 = .ok (.aload_n 0, 1) := by decide +kernel
theorem dX10_taken_8 : decode cX10_taken 8 = .ok (.getfield 7, 3) := by decide +kernel
theorem dX10_taken_11 : decode cX10_taken 11 = .ok (.iconst 3, 1) := by decide +kernel
theorem dX10_taken_12 : decode cX10_taken 12 = .ok (.iaload, 1) := by decide +kernel
theorem dX10_taken_13 : decode cX10_taken 13 = .ok (.if_icmp .ge 28, 3) := by decide +kernel
theorem dX10_taken_16 : decode cX10_taken 16 = .ok (.iload_n 3, 1) := by decide +kernel
theorem dX10_taken_17 : decode cX10_taken 17 = .ok (.aload_n 0, 1) := by decide +kernel
theorem dX10_taken_18 : decode cX10_taken 18 = .ok (.iload 4, 2) := by decide +kernel
theorem dX10_taken_20 : decode cX10_taken 20 = .ok (.iload_n 1, 1) := by decide +kernel
theorem dX10_taken_21 : decode cX10_taken 21 = .ok (.invokevirtual 157, 3) := by decide +kernel
theorem dX10_taken_24 : decode cX10_taken 24 = .ok (.iload_n 2, 1) := by decide +kernel
theorem dX10_taken_25 : decode cX10_taken 25 = .ok (.if_icmp .ne 7, 3) := by decide +kernel
theorem dX10_taken_28 : decode cX10_taken 28 = .ok (.iconst 1, 1) := by decide +kernel
theorem dX10_taken_29 : decode cX10_taken 29 = .ok (.goto 4, 3) := by decide +kernel
theorem dX10_taken_32 : decode cX10_taken 32 = .ok (.iconst 0, 1) := by decide +kernel
theorem dX10_taken_33 : decode cX10_taken 33 = .ok (.iadd, 1) := by decide +kernel
theorem dX10_taken_34 : decode cX10_taken 34 = .ok (.istore_n 3, 1) := by decide +kernel
theorem dX10_taken_35 : decode cX10_taken 35 = .ok (.iinc 4 1, 3) := by decide +kernel
theorem dX10_taken_38 : decode cX10_taken 38 = .ok (.goto (-33), 3) := by decide +kernel
theorem dX10_taken_41 : decode cX10_taken 41 = .ok (.iload_n 3, 1) := by decide +kernel
theorem dX10_taken_42 : decode cX10_taken 42 = .ok (.ireturn, 1) := by decide +kernel
theorem dX10_about_0 : decode cX10_about 0 = .ok (.aload_n 0, 1) := by decide +kernel
theorem dX10_about_1 : decode cX10_about 1 = .ok (.iload_n 1, 1) := by decide +kernel
theorem dX10_about_2 : decode cX10_about 2 = .ok (.invokevirtual 57, 3) := by decide +kernel
theorem dX10_about_5 : decode cX10_about 5 = .ok (.ifCond .eq 12, 3) := by decide +kernel
theorem dX10_about_8 : decode cX10_about 8 = .ok (.iload_n 2, 1) := by decide +kernel
theorem dX10_about_9 : decode cX10_about 9 = .ok (.iconst 0, 1) := by decide +kernel
theorem dX10_about_10 : decode cX10_about 10 = .ok (.iconst 3, 1) := by decide +kernel
theorem dX10_about_11 : decode cX10_about 11 = .ok (.invokestatic 50, 3) := by decide +kernel
theorem dX10_about_14 : decode cX10_about 14 = .ok (.ifCond .ne 7, 3) := by decide +kernel
theorem dX10_about_17 : decode cX10_about 17 = .ok (.sipush (-1001), 3) := by decide +kernel
theorem dX10_about_20 : decode cX10_about 20 = .ok (.ireturn, 1) := by decide +kernel
theorem dX10_about_21 : decode cX10_about 21 = .ok (.aload_n 0, 1) := by decide +kernel
theorem dX10_about_22 : decode cX10_about 22 = .ok (.iload_n 1, 1) := by decide +kernel
theorem dX10_about_23 : decode cX10_about 23 = .ok (.aload_n 0, 1) := by decide +kernel
theorem dX10_about_24 : decode cX10_about 24 = .ok (.iload_n 1, 1) := by decide +kernel
theorem dX10_about_25 : decode cX10_about 25 = .ok (.iconst 1, 1) := by decide +kernel
theorem dX10_about_26 : decode cX10_about 26 = .ok (.invokevirtual 61, 3) := by decide +kernel
theorem dX10_about_29 : decode cX10_about 29 = .ok (.invokevirtual 160, 3) := by decide +kernel
theorem dX10_about_32 : decode cX10_about 32 = .ok (.istore_n 3, 1) := by decide +kernel
theorem dX10_about_33 : decode cX10_about 33 = .ok (.aload_n 0, 1) := by decide +kernel
theorem dX10_about_34 : decode cX10_about 34 = .ok (.iload_n 1, 1) := by decide +kernel
theorem dX10_about_35 : decode cX10_about 35 = .ok (.sipush (-1009), 3) := by decide +kernel
theorem dX10_about_38 : decode cX10_about 38 = .ok (.invokevirtual 160, 3) := by decide +kernel
theorem dX10_about_41 : decode cX10_about 41 = .ok (.istore 4, 2) := by decide +kernel
theorem dX10_about_43 : decode cX10_about 43 = .ok (.sipush (-1009), 3) := by decide +kernel
theorem dX10_about_46 : decode cX10_about 46 = .ok (.istore 5, 2) := by decide +kernel
theorem dX10_about_48 : decode cX10_about 48 = .ok (.iconst 0, 1) := by decide +kernel
theorem dX10_about_49 : decode cX10_about 49 = .ok (.istore 6, 2) := by decide +kernel
theorem dX10_about_51 : decode cX10_about 51 = .ok (.iconst 0, 1) := by decide +kernel
theorem dX10_about_52 : decode cX10_about 52 = .ok (.istore 7, 2) := by decide +kernel
theorem dX10_about_54 : decode cX10_about 54 = .ok (.iload 7, 2) := by decide +kernel
theorem dX10_about_56 : decode cX10_about 56 = .ok (.aload_n 0, 1) := by decide +kernel
theorem dX10_about_57 : decode cX10_about 57 = .ok (.iload_n 1, 1) := by decide +kernel
theorem dX10_about_58 : decode cX10_about 58 = .ok (.iconst 4, 1) := by decide +kernel
theorem dX10_about_59 : decode cX10_about 59 = .ok (.invokevirtual 61, 3) := by decide +kernel
theorem dX10_about_62 : decode cX10_about 62 = .ok (.if_icmp .ge 65, 3) := by decide +kernel
theorem dX10_about_65 : decode cX10_about 65 = .ok (.iload 7, 2) := by decide +kernel
theorem dX10_about_67 : decode cX10_about 67 = .ok (.aload_n 0, 1) := by decide +kernel
theorem dX10_about_68 : decode cX10_about 68 = .ok (.iload_n 1, 1) := by decide +kernel
theorem dX10_about_69 : decode cX10_about 69 = .ok (.iconst 1, 1) := by decide +kernel
theorem dX10_about_70 : decode cX10_about 70 = .ok (.invokevirtual 61, 3) := by decide +kernel
theorem dX10_about_73 : decode cX10_about 73 = .ok (.if_icmp .ne 7, 3) := by decide +kernel
theorem dX10_about_76 : decode cX10_about 76 = .ok (.iconst 0, 1) := by decide +kernel
theorem dX10_about_77 : decode cX10_about 77 = .ok (.goto 10, 3) := by decide +kernel
theorem dX10_about_80 : decode cX10_about 80 = .ok (.aload_n 0, 1) := by decide +kernel
theorem dX10_about_81 : decode cX10_about 81 = .ok (.iload_n 1, 1) := by decide +kernel
theorem dX10_about_82 : decode cX10_about 82 = .ok (.iload 7, 2) := by decide +kernel
theorem dX10_about_84 : decode cX10_about 84 = .ok (.invokevirtual 160, 3) := by decide +kernel
theorem dX10_about_87 : decode cX10_about 87 = .ok (.istore 8, 2) := by decide +kernel
theorem dX10_about_89 : decode cX10_about 89 = .ok (.iload 8, 2) := by decide +kernel
theorem dX10_about_91 : decode cX10_about 91 = .ok (.iload 6, 2) := by decide +kernel
theorem dX10_about_93 : decode cX10_about 93 = .ok (.if_icmp .le 8, 3) := by decide +kernel
theorem dX10_about_96 : decode cX10_about 96 = .ok (.iload 7, 2) := by decide +kernel
theorem dX10_about_98 : decode cX10_about 98 = .ok (.goto 5, 3) := by decide +kernel
theorem dX10_about_101 : decode cX10_about 101 = .ok (.iload 5, 2) := by decide +kernel
theorem dX10_about_103 : decode cX10_about 103 = .ok (.istore 5, 2) := by decide +kernel
theorem dX10_about_105 : decode cX10_about 105 = .ok (.iload 8, 2) := by decide +kernel
theorem dX10_about_107 : decode cX10_about 107 = .ok (.iload 6, 2) := by decide +kernel
theorem dX10_about_109 : decode cX10_about 109 = .ok (.if_icmp .le 8, 3) := by decide +kernel
theorem dX10_about_112 : decode cX10_about 112 = .ok (.iload 8, 2) := by decide +kernel
theorem dX10_about_114 : decode cX10_about 114 = .ok (.goto 5, 3) := by decide +kernel
theorem dX10_about_117 : decode cX10_about 117 = .ok (.iload 6, 2) := by decide +kernel
theorem dX10_about_119 : decode cX10_about 119 = .ok (.istore 6, 2) := by decide +kernel
theorem dX10_about_121 : decode cX10_about 121 = .ok (.iinc 7 1, 3) := by decide +kernel
theorem dX10_about_124 : decode cX10_about 124 = .ok (.goto (-70), 3) := by decide +kernel
theorem dX10_about_127 : decode cX10_about 127 = .ok (.iload_n 2, 1) := by decide +kernel
theorem dX10_about_128 : decode cX10_about 128 = .ok (.ifCond .ne 7, 3) := by decide +kernel
theorem dX10_about_131 : decode cX10_about 131 = .ok (.iload_n 3, 1) := by decide +kernel
theorem dX10_about_132 : decode cX10_about 132 = .ok (.goto 34, 3) := by decide +kernel
theorem dX10_about_135 : decode cX10_about 135 = .ok (.iload_n 2, 1) := by decide +kernel
theorem dX10_about_136 : decode cX10_about 136 = .ok (.iconst 1, 1) := by decide +kernel
theorem dX10_about_137 : decode cX10_about 137 = .ok (.if_icmp .ne 17, 3) := by decide +kernel
theorem dX10_about_140 : decode cX10_about 140 = .ok (.aload_n 0, 1) := by decide +kernel
theorem dX10_about_141 : decode cX10_about 141 = .ok (.getfield 7, 3) := by decide +kernel
theorem dX10_about_144 : decode cX10_about 144 = .ok (.iconst 3, 1) := by decide +kernel
theorem dX10_about_145 : decode cX10_about 145 = .ok (.iaload, 1) := by decide +kernel
theorem dX10_about_146 : decode cX10_about 146 = .ok (.iload_n 3, 1) := by decide +kernel
theorem dX10_about_147 : decode cX10_about 147 = .ok (.isub, 1) := by decide +kernel
theorem dX10_about_148 : decode cX10_about 148 = .ok (.iload 4, 2) := by decide +kernel
theorem dX10_about_150 : decode cX10_about 150 = .ok (.isub, 1) := by decide +kernel
theorem dX10_about_151 : decode cX10_about 151 = .ok (.goto 15, 3) := by decide +kernel
theorem dX10_about_154 : decode cX10_about 154 = .ok (.iload_n 2, 1) := by decide +kernel
theorem dX10_about_155 : decode cX10_about 155 = .ok (.iconst 2, 1) := by decide +kernel
theorem dX10_about_156 : decode cX10_about 156 = .ok (.if_icmp .ne 8, 3) := by decide +kernel
theorem dX10_about_159 : decode cX10_about 159 = .ok (.iload 4, 2) := by decide +kernel
theorem dX10_about_161 : decode cX10_about 161 = .ok (.goto 5, 3) := by decide +kernel
theorem dX10_about_164 : decode cX10_about 164 = .ok (.iload 5, 2) := by decide +kernel
theorem dX10_about_166 : decode cX10_about 166 = .ok (.ireturn, 1) := by decide +kernel
theorem dX10_parting_0 : decode cX10_parting 0 = .ok (.aload_n 0, 1) := by decide +kernel
theorem dX10_parting_1 : decode cX10_parting 1 = .ok (.iload_n 1, 1) := by decide +kernel
theorem dX10_parting_2 : decode cX10_parting 2 = .ok (.invokevirtual 57, 3) := by decide +kernel
theorem dX10_parting_5 : decode cX10_parting 5 = .ok (.ifCond .ne 6, 3) := by decide +kernel
theorem dX10_parting_8 : decode cX10_parting 8 = .ok (.ldc 163, 2) := by decide +kernel
theorem dX10_parting_10 : decode cX10_parting 10 = .ok (.freturn, 1) := by decide +kernel
theorem dX10_parting_11 : decode cX10_parting 11 = .ok (.aload_n 0, 1) := by decide +kernel
theorem dX10_parting_12 : decode cX10_parting 12 = .ok (.getfield 7, 3) := by decide +kernel
theorem dX10_parting_15 : decode cX10_parting 15 = .ok (.iconst 3, 1) := by decide +kernel
theorem dX10_parting_16 : decode cX10_parting 16 = .ok (.iaload, 1) := by decide +kernel
theorem dX10_parting_17 : decode cX10_parting 17 = .ok (.iconst 2, 1) := by decide +kernel
theorem dX10_parting_18 : decode cX10_parting 18 = .ok (.idiv, 1) := by decide +kernel
theorem dX10_parting_19 : decode cX10_parting 19 = .ok (.istore_n 2, 1) := by decide +kernel
theorem dX10_parting_20 : decode cX10_parting 20 = .ok (.iconst 0, 1) := by decide +kernel
theorem dX10_parting_21 : decode cX10_parting 21 = .ok (.istore_n 3, 1) := by decide +kernel
theorem dX10_parting_22 : decode cX10_parting 22 = .ok (.iconst 0, 1) := by decide +kernel
theorem dX10_parting_23 : decode cX10_parting 23 = .ok (.istore 4, 2) := by decide +kernel
theorem dX10_parting_25 : decode cX10_parting 25 = .ok (.iload 4, 2) := by decide +kernel
theorem dX10_parting_27 : decode cX10_parting 27 = .ok (.aload_n 0, 1) := by decide +kernel
theorem dX10_parting_28 : decode cX10_parting 28 = .ok (.getfield 7, 3) := by decide +kernel
theorem dX10_parting_31 : decode cX10_parting 31 = .ok (.iconst 3, 1) := by decide +kernel
theorem dX10_parting_32 : decode cX10_parting 32 = .ok (.iaload, 1) := by decide +kernel
theorem dX10_parting_33 : decode cX10_parting 33 = .ok (.if_icmp .ge 130, 3) := by decide +kernel
theorem dX10_parting_36 : decode cX10_parting 36 = .ok (.iconst 0, 1) := by decide +kernel
theorem dX10_parting_37 : decode cX10_parting 37 = .ok (.istore 5, 2) := by decide +kernel
theorem dX10_parting_39 : decode cX10_parting 39 = .ok (.iconst 0, 1) := by decide +kernel
theorem dX10_parting_40 : decode cX10_parting 40 = .ok (.istore 6, 2) := by decide +kernel
theorem dX10_parting_42 : decode cX10_parting 42 = .ok (.iload 6, 2) := by decide +kernel
theorem dX10_parting_44 : decode cX10_parting 44 = .ok (.aload_n 0, 1) := by decide +kernel
theorem dX10_parting_45 : decode cX10_parting 45 = .ok (.getfield 7, 3) := by decide +kernel
theorem dX10_parting_48 : decode cX10_parting 48 = .ok (.iconst 3, 1) := by decide +kernel
theorem dX10_parting_49 : decode cX10_parting 49 = .ok (.iaload, 1) := by decide +kernel
theorem dX10_parting_50 : decode cX10_parting 50 = .ok (.if_icmp .ge 56, 3) := by decide +kernel
theorem dX10_parting_53 : decode cX10_parting 53 = .ok (.iload 5, 2) := by decide +kernel
theorem dX10_parting_55 : decode cX10_parting 55 = .ok (.aload_n 0, 1) := by decide +kernel
theorem dX10_parting_56 : decode cX10_parting 56 = .ok (.iload 6, 2) := by decide +kernel
theorem dX10_parting_58 : decode cX10_parting 58 = .ok (.invokevirtual 145, 3) := by decide +kernel
theorem dX10_parting_61 : decode cX10_parting 61 = .ok (.aload_n 0, 1) := by decide +kernel
theorem dX10_parting_62 : decode cX10_parting 62 = .ok (.iload 4, 2) := by decide +kernel
theorem dX10_parting_64 : decode cX10_parting 64 = .ok (.invokevirtual 145, 3) := by decide +kernel
theorem dX10_parting_67 : decode cX10_parting 67 = .ok (.if_icmp .gt 25, 3) := by decide +kernel
theorem dX10_parting_70 : decode cX10_parting 70 = .ok (.aload_n 0, 1) := by decide +kernel
theorem dX10_parting_71 : decode cX10_parting 71 = .ok (.iload 6, 2) := by decide +kernel
theorem dX10_parting_73 : decode cX10_parting 73 = .ok (.invokevirtual 145, 3) := by decide +kernel
theorem dX10_parting_76 : decode cX10_parting 76 = .ok (.aload_n 0, 1) := by decide +kernel
theorem dX10_parting_77 : decode cX10_parting 77 = .ok (.iload 4, 2) := by decide +kernel
theorem dX10_parting_79 : decode cX10_parting 79 = .ok (.invokevirtual 145, 3) := by decide +kernel
theorem dX10_parting_82 : decode cX10_parting 82 = .ok (.if_icmp .ne 14, 3) := by decide +kernel
theorem dX10_parting_85 : decode cX10_parting 85 = .ok (.iload 6, 2) := by decide +kernel
theorem dX10_parting_87 : decode cX10_parting 87 = .ok (.iload 4, 2) := by decide +kernel
theorem dX10_parting_89 : decode cX10_parting 89 = .ok (.if_icmp .ge 7, 3) := by decide +kernel
theorem dX10_parting_92 : decode cX10_parting 92 = .ok (.iconst 1, 1) := by decide +kernel
theorem dX10_parting_93 : decode cX10_parting 93 = .ok (.goto 4, 3) := by decide +kernel
theorem dX10_parting_96 : decode cX10_parting 96 = .ok (.iconst 0, 1) := by decide +kernel
theorem dX10_parting_97 : decode cX10_parting 97 = .ok (.iadd, 1) := by decide +kernel
theorem dX10_parting_98 : decode cX10_parting 98 = .ok (.istore 5, 2) := by decide +kernel
theorem dX10_parting_100 : decode cX10_parting 100 = .ok (.iinc 6 1, 3) := by decide +kernel
theorem dX10_parting_103 : decode cX10_parting 103 = .ok (.goto (-61), 3) := by decide +kernel
theorem dX10_parting_106 : decode cX10_parting 106 = .ok (.aload_n 0, 1) := by decide +kernel
theorem dX10_parting_107 : decode cX10_parting 107 = .ok (.iload 4, 2) := by decide +kernel
theorem dX10_parting_109 : decode cX10_parting 109 = .ok (.iload_n 1, 1) := by decide +kernel
theorem dX10_parting_110 : decode cX10_parting 110 = .ok (.invokevirtual 157, 3) := by decide +kernel
theorem dX10_parting_113 : decode cX10_parting 113 = .ok (.aload_n 0, 1) := by decide +kernel
theorem dX10_parting_114 : decode cX10_parting 114 = .ok (.iload_n 1, 1) := by decide +kernel
theorem dX10_parting_115 : decode cX10_parting 115 = .ok (.iconst 1, 1) := by decide +kernel
theorem dX10_parting_116 : decode cX10_parting 116 = .ok (.invokevirtual 61, 3) := by decide +kernel
theorem dX10_parting_119 : decode cX10_parting 119 = .ok (.if_icmp .ne 38, 3) := by decide +kernel
theorem dX10_parting_122 : decode cX10_parting 122 = .ok (.iload_n 3, 1) := by decide +kernel
theorem dX10_parting_123 : decode cX10_parting 123 = .ok (.iload 5, 2) := by decide +kernel
theorem dX10_parting_125 : decode cX10_parting 125 = .ok (.iload_n 2, 1) := by decide +kernel
theorem dX10_parting_126 : decode cX10_parting 126 = .ok (.if_icmp .ge 7, 3) := by decide +kernel
theorem dX10_parting_129 : decode cX10_parting 129 = .ok (.iconst 1, 1) := by decide +kernel
theorem dX10_parting_130 : decode cX10_parting 130 = .ok (.goto 4, 3) := by decide +kernel
theorem dX10_parting_133 : decode cX10_parting 133 = .ok (.iconst 0, 1) := by decide +kernel
theorem dX10_parting_134 : decode cX10_parting 134 = .ok (.iadd, 1) := by decide +kernel
theorem dX10_parting_135 : decode cX10_parting 135 = .ok (.istore_n 3, 1) := by decide +kernel
theorem dX10_parting_136 : decode cX10_parting 136 = .ok (.iload_n 3, 1) := by decide +kernel
theorem dX10_parting_137 : decode cX10_parting 137 = .ok (.iload 5, 2) := by decide +kernel
theorem dX10_parting_139 : decode cX10_parting 139 = .ok (.aload_n 0, 1) := by decide +kernel
theorem dX10_parting_140 : decode cX10_parting 140 = .ok (.getfield 7, 3) := by decide +kernel
theorem dX10_parting_143 : decode cX10_parting 143 = .ok (.iconst 3, 1) := by decide +kernel
theorem dX10_parting_144 : decode cX10_parting 144 = .ok (.iaload, 1) := by decide +kernel
theorem dX10_parting_145 : decode cX10_parting 145 = .ok (.iload_n 2, 1) := by decide +kernel
theorem dX10_parting_146 : decode cX10_parting 146 = .ok (.isub, 1) := by decide +kernel
theorem dX10_parting_147 : decode cX10_parting 147 = .ok (.if_icmp .lt 7, 3) := by decide +kernel
theorem dX10_parting_150 : decode cX10_parting 150 = .ok (.iconst 1, 1) := by decide +kernel
theorem dX10_parting_151 : decode cX10_parting 151 = .ok (.goto 4, 3) := by decide +kernel
theorem dX10_parting_154 : decode cX10_parting 154 = .ok (.iconst 0, 1) := by decide +kernel
theorem dX10_parting_155 : decode cX10_parting 155 = .ok (.isub, 1) := by decide +kernel
theorem dX10_parting_156 : decode cX10_parting 156 = .ok (.istore_n 3, 1) := by decide +kernel
theorem dX10_parting_157 : decode cX10_parting 157 = .ok (.iinc 4 1, 3) := by decide +kernel
theorem dX10_parting_160 : decode cX10_parting 160 = .ok (.goto (-135), 3) := by decide +kernel
theorem dX10_parting_163 : decode cX10_parting 163 = .ok (.iload_n 2, 1) := by decide +kernel
theorem dX10_parting_164 : decode cX10_parting 164 = .ok (.ifCond .ne 7, 3) := by decide +kernel
theorem dX10_parting_167 : decode cX10_parting 167 = .ok (.fconst 0, 1) := by decide +kernel
theorem dX10_parting_168 : decode cX10_parting 168 = .ok (.goto 8, 3) := by decide +kernel
theorem dX10_parting_171 : decode cX10_parting 171 = .ok (.iload_n 3, 1) := by decide +kernel
theorem dX10_parting_172 : decode cX10_parting 172 = .ok (.i2f, 1) := by decide +kernel
theorem dX10_parting_173 : decode cX10_parting 173 = .ok (.iload_n 2, 1) := by decide +kernel
theorem dX10_parting_174 : decode cX10_parting 174 = .ok (.i2f, 1) := by decide +kernel
theorem dX10_parting_175 : decode cX10_parting 175 = .ok (.fdiv, 1) := by decide +kernel
theorem dX10_parting_176 : decode cX10_parting 176 = .ok (.freturn, 1) := by decide +kernel
theorem dX10_mean_0 : decode cX10_mean 0 = .ok (.iconst 0, 1) := by decide +kernel
theorem dX10_mean_1 : decode cX10_mean 1 = .ok (.istore_n 1, 1) := by decide +kernel
theorem dX10_mean_2 : decode cX10_mean 2 = .ok (.iconst 0, 1) := by decide +kernel
theorem dX10_mean_3 : decode cX10_mean 3 = .ok (.istore_n 2, 1) := by decide +kernel
theorem dX10_mean_4 : decode cX10_mean 4 = .ok (.iload_n 2, 1) := by decide +kernel
theorem dX10_mean_5 : decode cX10_mean 5 = .ok (.aload_n 0, 1) := by decide +kernel
theorem dX10_mean_6 : decode cX10_mean 6 = .ok (.getfield 7, 3) := by decide +kernel
theorem dX10_mean_9 : decode cX10_mean 9 = .ok (.iconst 3, 1) := by decide +kernel
theorem dX10_mean_10 : decode cX10_mean 10 = .ok (.iaload, 1) := by decide +kernel
theorem dX10_mean_11 : decode cX10_mean 11 = .ok (.if_icmp .ge 17, 3) := by decide +kernel
theorem dX10_mean_14 : decode cX10_mean 14 = .ok (.iload_n 1, 1) := by decide +kernel
theorem dX10_mean_15 : decode cX10_mean 15 = .ok (.aload_n 0, 1) := by decide +kernel
theorem dX10_mean_16 : decode cX10_mean 16 = .ok (.iload_n 2, 1) := by decide +kernel
theorem dX10_mean_17 : decode cX10_mean 17 = .ok (.invokevirtual 145, 3) := by decide +kernel
theorem dX10_mean_20 : decode cX10_mean 20 = .ok (.iadd, 1) := by decide +kernel
theorem dX10_mean_21 : decode cX10_mean 21 = .ok (.istore_n 1, 1) := by decide +kernel
theorem dX10_mean_22 : decode cX10_mean 22 = .ok (.iinc 2 1, 3) := by decide +kernel
theorem dX10_mean_25 : decode cX10_mean 25 = .ok (.goto (-21), 3) := by decide +kernel
theorem dX10_mean_28 : decode cX10_mean 28 = .ok (.aload_n 0, 1) := by decide +kernel
theorem dX10_mean_29 : decode cX10_mean 29 = .ok (.getfield 7, 3) := by decide +kernel
theorem dX10_mean_32 : decode cX10_mean 32 = .ok (.iconst 3, 1) := by decide +kernel
theorem dX10_mean_33 : decode cX10_mean 33 = .ok (.iaload, 1) := by decide +kernel
theorem dX10_mean_34 : decode cX10_mean 34 = .ok (.ifCond .ne 7, 3) := by decide +kernel
theorem dX10_mean_37 : decode cX10_mean 37 = .ok (.fconst 0, 1) := by decide +kernel
theorem dX10_mean_38 : decode cX10_mean 38 = .ok (.goto 13, 3) := by decide +kernel
theorem dX10_mean_41 : decode cX10_mean 41 = .ok (.iload_n 1, 1) := by decide +kernel
theorem dX10_mean_42 : decode cX10_mean 42 = .ok (.i2f, 1) := by decide +kernel
theorem dX10_mean_43 : decode cX10_mean 43 = .ok (.aload_n 0, 1) := by decide +kernel
theorem dX10_mean_44 : decode cX10_mean 44 = .ok (.getfield 7, 3) := by decide +kernel
theorem dX10_mean_47 : decode cX10_mean 47 = .ok (.iconst 3, 1) := by decide +kernel
theorem dX10_mean_48 : decode cX10_mean 48 = .ok (.iaload, 1) := by decide +kernel
theorem dX10_mean_49 : decode cX10_mean 49 = .ok (.i2f, 1) := by decide +kernel
theorem dX10_mean_50 : decode cX10_mean 50 = .ok (.fdiv, 1) := by decide +kernel
theorem dX10_mean_51 : decode cX10_mean 51 = .ok (.freturn, 1) := by decide +kernel
theorem dX10_shared_0 : decode cX10_shared 0 = .ok (.iconst 0, 1) := by decide +kernel
theorem dX10_shared_1 : decode cX10_shared 1 = .ok (.istore_n 3, 1) := by decide +kernel
theorem dX10_shared_2 : decode cX10_shared 2 = .ok (.iconst 0, 1) := by decide +kernel
theorem dX10_shared_3 : decode cX10_shared 3 = .ok (.istore 4, 2) := by decide +kernel
theorem dX10_shared_5 : decode cX10_shared 5 = .ok (.iload 4, 2) := by decide +kernel
theorem dX10_shared_7 : decode cX10_shared 7 = .ok (.aload_n 0, 1) := by decide +kernel
theorem dX10_shared_8 : decode cX10_shared 8 = .ok (.getfield 7, 3) := by decide +kernel
theorem dX10_shared_11 : decode cX10_shared 11 = .ok (.iconst 0, 1) := by decide +kernel
theorem dX10_shared_12 : decode cX10_shared 12 = .ok (.iaload, 1) := by decide +kernel
theorem dX10_shared_13 : decode cX10_shared 13 = .ok (.if_icmp .ge 58, 3) := by decide +kernel
theorem dX10_shared_16 : decode cX10_shared 16 = .ok (.aload_n 0, 1) := by decide +kernel
theorem dX10_shared_17 : decode cX10_shared 17 = .ok (.iload_n 1, 1) := by decide +kernel
theorem dX10_shared_18 : decode cX10_shared 18 = .ok (.iload 4, 2) := by decide +kernel
theorem dX10_shared_20 : decode cX10_shared 20 = .ok (.invokevirtual 157, 3) := by decide +kernel
theorem dX10_shared_23 : decode cX10_shared 23 = .ok (.istore 5, 2) := by decide +kernel
theorem dX10_shared_25 : decode cX10_shared 25 = .ok (.iload_n 3, 1) := by decide +kernel
theorem dX10_shared_26 : decode cX10_shared 26 = .ok (.iload 5, 2) := by decide +kernel
theorem dX10_shared_28 : decode cX10_shared 28 = .ok (.sipush (-1009), 3) := by decide +kernel
theorem dX10_shared_31 : decode cX10_shared 31 = .ok (.if_icmp .eq 31, 3) := by decide +kernel
theorem dX10_shared_34 : decode cX10_shared 34 = .ok (.iload 5, 2) := by decide +kernel
theorem dX10_shared_36 : decode cX10_shared 36 = .ok (.aload_n 0, 1) := by decide +kernel
theorem dX10_shared_37 : decode cX10_shared 37 = .ok (.iload 4, 2) := by decide +kernel
theorem dX10_shared_39 : decode cX10_shared 39 = .ok (.iconst 1, 1) := by decide +kernel
theorem dX10_shared_40 : decode cX10_shared 40 = .ok (.invokevirtual 61, 3) := by decide +kernel
theorem dX10_shared_43 : decode cX10_shared 43 = .ok (.if_icmp .eq 19, 3) := by decide +kernel
theorem dX10_shared_46 : decode cX10_shared 46 = .ok (.iload 5, 2) := by decide +kernel
theorem dX10_shared_48 : decode cX10_shared 48 = .ok (.aload_n 0, 1) := by decide +kernel
theorem dX10_shared_49 : decode cX10_shared 49 = .ok (.iload_n 2, 1) := by decide +kernel
theorem dX10_shared_50 : decode cX10_shared 50 = .ok (.iload 4, 2) := by decide +kernel
theorem dX10_shared_52 : decode cX10_shared 52 = .ok (.invokevirtual 157, 3) := by decide +kernel
theorem dX10_shared_55 : decode cX10_shared 55 = .ok (.if_icmp .ne 7, 3) := by decide +kernel
theorem dX10_shared_58 : decode cX10_shared 58 = .ok (.iconst 1, 1) := by decide +kernel
theorem dX10_shared_59 : decode cX10_shared 59 = .ok (.goto 4, 3) := by decide +kernel
theorem dX10_shared_62 : decode cX10_shared 62 = .ok (.iconst 0, 1) := by decide +kernel
theorem dX10_shared_63 : decode cX10_shared 63 = .ok (.iadd, 1) := by decide +kernel
theorem dX10_shared_64 : decode cX10_shared 64 = .ok (.istore_n 3, 1) := by decide +kernel
theorem dX10_shared_65 : decode cX10_shared 65 = .ok (.iinc 4 1, 3) := by decide +kernel
theorem dX10_shared_68 : decode cX10_shared 68 = .ok (.goto (-63), 3) := by decide +kernel
theorem dX10_shared_71 : decode cX10_shared 71 = .ok (.iload_n 3, 1) := by decide +kernel
theorem dX10_shared_72 : decode cX10_shared 72 = .ok (.ireturn, 1) := by decide +kernel
theorem dX10_sameWrong_0 : decode cX10_sameWrong 0 = .ok (.aload_n 0, 1) := by decide +kernel
theorem dX10_sameWrong_1 : decode cX10_sameWrong 1 = .ok (.iload_n 1, 1) := by decide +kernel
theorem dX10_sameWrong_2 : decode cX10_sameWrong 2 = .ok (.invokevirtual 151, 3) := by decide +kernel
theorem dX10_sameWrong_5 : decode cX10_sameWrong 5 = .ok (.ifCond .eq 20, 3) := by decide +kernel
theorem dX10_sameWrong_8 : decode cX10_sameWrong 8 = .ok (.aload_n 0, 1) := by decide +kernel
theorem dX10_sameWrong_9 : decode cX10_sameWrong 9 = .ok (.iload_n 2, 1) := by decide +kernel
theorem dX10_sameWrong_10 : decode cX10_sameWrong 10 = .ok (.invokevirtual 151, 3) := by decide +kernel
theorem dX10_sameWrong_13 : decode cX10_sameWrong 13 = .ok (.ifCond .eq 12, 3) := by decide +kernel
theorem dX10_sameWrong_16 : decode cX10_sameWrong 16 = .ok (.aload_n 0, 1) := by decide +kernel
theorem dX10_sameWrong_17 : decode cX10_sameWrong 17 = .ok (.iload_n 1, 1) := by decide +kernel
theorem dX10_sameWrong_18 : decode cX10_sameWrong 18 = .ok (.iload_n 2, 1) := by decide +kernel
theorem dX10_sameWrong_19 : decode cX10_sameWrong 19 = .ok (.invokevirtual 164, 3) := by decide +kernel
theorem dX10_sameWrong_22 : decode cX10_sameWrong 22 = .ok (.goto 6, 3) := by decide +kernel
theorem dX10_sameWrong_25 : decode cX10_sameWrong 25 = .ok (.sipush (-1001), 3) := by decide +kernel
theorem dX10_sameWrong_28 : decode cX10_sameWrong 28 = .ok (.ireturn, 1) := by decide +kernel
theorem dX10_suspects_0 : decode cX10_suspects 0 = .ok (.sipush (-1009), 3) := by decide +kernel
theorem dX10_suspects_3 : decode cX10_suspects 3 = .ok (.istore_n 1, 1) := by decide +kernel
theorem dX10_suspects_4 : decode cX10_suspects 4 = .ok (.iconst (-1), 1) := by decide +kernel
theorem dX10_suspects_5 : decode cX10_suspects 5 = .ok (.istore_n 2, 1) := by decide +kernel
theorem dX10_suspects_6 : decode cX10_suspects 6 = .ok (.iconst 0, 1) := by decide +kernel
theorem dX10_suspects_7 : decode cX10_suspects 7 = .ok (.istore_n 3, 1) := by decide +kernel
theorem dX10_suspects_8 : decode cX10_suspects 8 = .ok (.iload_n 3, 1) := by decide +kernel
theorem dX10_suspects_9 : decode cX10_suspects 9 = .ok (.aload_n 0, 1) := by decide +kernel
theorem dX10_suspects_10 : decode cX10_suspects 10 = .ok (.getfield 7, 3) := by decide +kernel
theorem dX10_suspects_13 : decode cX10_suspects 13 = .ok (.iconst 3, 1) := by decide +kernel
theorem dX10_suspects_14 : decode cX10_suspects 14 = .ok (.iaload, 1) := by decide +kernel
theorem dX10_suspects_15 : decode cX10_suspects 15 = .ok (.if_icmp .ge 71, 3) := by decide +kernel
theorem dX10_suspects_18 : decode cX10_suspects 18 = .ok (.iload_n 3, 1) := by decide +kernel
theorem dX10_suspects_19 : decode cX10_suspects 19 = .ok (.iconst 1, 1) := by decide +kernel
theorem dX10_suspects_20 : decode cX10_suspects 20 = .ok (.iadd, 1) := by decide +kernel
theorem dX10_suspects_21 : decode cX10_suspects 21 = .ok (.istore 4, 2) := by decide +kernel
theorem dX10_suspects_23 : decode cX10_suspects 23 = .ok (.iload 4, 2) := by decide +kernel
theorem dX10_suspects_25 : decode cX10_suspects 25 = .ok (.aload_n 0, 1) := by decide +kernel
theorem dX10_suspects_26 : decode cX10_suspects 26 = .ok (.getfield 7, 3) := by decide +kernel
theorem dX10_suspects_29 : decode cX10_suspects 29 = .ok (.iconst 3, 1) := by decide +kernel
theorem dX10_suspects_30 : decode cX10_suspects 30 = .ok (.iaload, 1) := by decide +kernel
theorem dX10_suspects_31 : decode cX10_suspects 31 = .ok (.if_icmp .ge 49, 3) := by decide +kernel
theorem dX10_suspects_34 : decode cX10_suspects 34 = .ok (.aload_n 0, 1) := by decide +kernel
theorem dX10_suspects_35 : decode cX10_suspects 35 = .ok (.iload_n 3, 1) := by decide +kernel
theorem dX10_suspects_36 : decode cX10_suspects 36 = .ok (.iload 4, 2) := by decide +kernel
theorem dX10_suspects_38 : decode cX10_suspects 38 = .ok (.invokevirtual 164, 3) := by decide +kernel
theorem dX10_suspects_41 : decode cX10_suspects 41 = .ok (.istore 5, 2) := by decide +kernel
theorem dX10_suspects_43 : decode cX10_suspects 43 = .ok (.iload 5, 2) := by decide +kernel
theorem dX10_suspects_45 : decode cX10_suspects 45 = .ok (.iload_n 2, 1) := by decide +kernel
theorem dX10_suspects_46 : decode cX10_suspects 46 = .ok (.if_icmp .le 13, 3) := by decide +kernel
theorem dX10_suspects_49 : decode cX10_suspects 49 = .ok (.bipush 100, 2) := by decide +kernel
theorem dX10_suspects_51 : decode cX10_suspects 51 = .ok (.iload_n 3, 1) := by decide +kernel
theorem dX10_suspects_52 : decode cX10_suspects 52 = .ok (.imul, 1) := by decide +kernel
theorem dX10_suspects_53 : decode cX10_suspects 53 = .ok (.iload 4, 2) := by decide +kernel
theorem dX10_suspects_55 : decode cX10_suspects 55 = .ok (.iadd, 1) := by decide +kernel
theorem dX10_suspects_56 : decode cX10_suspects 56 = .ok (.goto 4, 3) := by decide +kernel
theorem dX10_suspects_59 : decode cX10_suspects 59 = .ok (.iload_n 1, 1) := by decide +kernel
theorem dX10_suspects_60 : decode cX10_suspects 60 = .ok (.istore_n 1, 1) := by decide +kernel
theorem dX10_suspects_61 : decode cX10_suspects 61 = .ok (.iload 5, 2) := by decide +kernel
theorem dX10_suspects_63 : decode cX10_suspects 63 = .ok (.iload_n 2, 1) := by decide +kernel
theorem dX10_suspects_64 : decode cX10_suspects 64 = .ok (.if_icmp .le 8, 3) := by decide +kernel
theorem dX10_suspects_67 : decode cX10_suspects 67 = .ok (.iload 5, 2) := by decide +kernel
theorem dX10_suspects_69 : decode cX10_suspects 69 = .ok (.goto 4, 3) := by decide +kernel
theorem dX10_suspects_72 : decode cX10_suspects 72 = .ok (.iload_n 2, 1) := by decide +kernel
theorem dX10_suspects_73 : decode cX10_suspects 73 = .ok (.istore_n 2, 1) := by decide +kernel
theorem dX10_suspects_74 : decode cX10_suspects 74 = .ok (.iinc 4 1, 3) := by decide +kernel
theorem dX10_suspects_77 : decode cX10_suspects 77 = .ok (.goto (-54), 3) := by decide +kernel
theorem dX10_suspects_80 : decode cX10_suspects 80 = .ok (.iinc 3 1, 3) := by decide +kernel
theorem dX10_suspects_83 : decode cX10_suspects 83 = .ok (.goto (-75), 3) := by decide +kernel
theorem dX10_suspects_86 : decode cX10_suspects 86 = .ok (.iload_n 1, 1) := by decide +kernel
theorem dX10_suspects_87 : decode cX10_suspects 87 = .ok (.ireturn, 1) := by decide +kernel
theorem dX10_mistaken_0 : decode cX10_mistaken 0 = .ok (.aload_n 0, 1) := by decide +kernel
theorem dX10_mistaken_1 : decode cX10_mistaken 1 = .ok (.iload_n 1, 1) := by decide +kernel
theorem dX10_mistaken_2 : decode cX10_mistaken 2 = .ok (.invokevirtual 151, 3) := by decide +kernel
theorem dX10_mistaken_5 : decode cX10_mistaken 5 = .ok (.ifCond .eq 11, 3) := by decide +kernel
theorem dX10_mistaken_8 : decode cX10_mistaken 8 = .ok (.aload_n 0, 1) := by decide +kernel
theorem dX10_mistaken_9 : decode cX10_mistaken 9 = .ok (.iload_n 2, 1) := by decide +kernel
theorem dX10_mistaken_10 : decode cX10_mistaken 10 = .ok (.invokevirtual 103, 3) := by decide +kernel
theorem dX10_mistaken_13 : decode cX10_mistaken 13 = .ok (.ifCond .ne 7, 3) := by decide +kernel
theorem dX10_mistaken_16 : decode cX10_mistaken 16 = .ok (.sipush (-1001), 3) := by decide +kernel
theorem dX10_mistaken_19 : decode cX10_mistaken 19 = .ok (.ireturn, 1) := by decide +kernel
theorem dX10_mistaken_20 : decode cX10_mistaken 20 = .ok (.aload_n 0, 1) := by decide +kernel
theorem dX10_mistaken_21 : decode cX10_mistaken 21 = .ok (.iload_n 2, 1) := by decide +kernel
theorem dX10_mistaken_22 : decode cX10_mistaken 22 = .ok (.invokevirtual 106, 3) := by decide +kernel
theorem dX10_mistaken_25 : decode cX10_mistaken 25 = .ok (.aload_n 0, 1) := by decide +kernel
theorem dX10_mistaken_26 : decode cX10_mistaken 26 = .ok (.iload_n 1, 1) := by decide +kernel
theorem dX10_mistaken_27 : decode cX10_mistaken 27 = .ok (.invokevirtual 136, 3) := by decide +kernel
theorem dX10_mistaken_30 : decode cX10_mistaken 30 = .ok (.invokestatic 142, 3) := by decide +kernel
theorem dX10_mistaken_33 : decode cX10_mistaken 33 = .ok (.ireturn, 1) := by decide +kernel
theorem dX10_undo_0 : decode cX10_undo 0 = .ok (.aload_n 0, 1) := by decide +kernel
theorem dX10_undo_1 : decode cX10_undo 1 = .ok (.getfield 46, 3) := by decide +kernel
theorem dX10_undo_4 : decode cX10_undo 4 = .ok (.ifCond .ne 7, 3) := by decide +kernel
theorem dX10_undo_7 : decode cX10_undo 7 = .ok (.sipush (-1009), 3) := by decide +kernel
theorem dX10_undo_10 : decode cX10_undo 10 = .ok (.ireturn, 1) := by decide +kernel
theorem dX10_undo_11 : decode cX10_undo 11 = .ok (.aload_n 0, 1) := by decide +kernel
theorem dX10_undo_12 : decode cX10_undo 12 = .ok (.dup, 1) := by decide +kernel
theorem dX10_undo_13 : decode cX10_undo 13 = .ok (.getfield 46, 3) := by decide +kernel
theorem dX10_undo_16 : decode cX10_undo 16 = .ok (.iconst 1, 1) := by decide +kernel
theorem dX10_undo_17 : decode cX10_undo 17 = .ok (.isub, 1) := by decide +kernel
theorem dX10_undo_18 : decode cX10_undo 18 = .ok (.putfield 46, 3) := by decide +kernel
theorem dX10_undo_21 : decode cX10_undo 21 = .ok (.iconst 0, 1) := by decide +kernel
theorem dX10_undo_22 : decode cX10_undo 22 = .ok (.istore_n 1, 1) := by decide +kernel
theorem dX10_undo_23 : decode cX10_undo 23 = .ok (.iload_n 1, 1) := by decide +kernel
theorem dX10_undo_24 : decode cX10_undo 24 = .ok (.sipush 540, 3) := by decide +kernel
theorem dX10_undo_27 : decode cX10_undo 27 = .ok (.if_icmp .ge 30, 3) := by decide +kernel
theorem dX10_undo_30 : decode cX10_undo 30 = .ok (.aload_n 0, 1) := by decide +kernel
theorem dX10_undo_31 : decode cX10_undo 31 = .ok (.getfield 7, 3) := by decide +kernel
theorem dX10_undo_34 : decode cX10_undo 34 = .ok (.iload_n 1, 1) := by decide +kernel
theorem dX10_undo_35 : decode cX10_undo 35 = .ok (.aload_n 0, 1) := by decide +kernel
theorem dX10_undo_36 : decode cX10_undo 36 = .ok (.getfield 13, 3) := by decide +kernel
theorem dX10_undo_39 : decode cX10_undo 39 = .ok (.sipush 540, 3) := by decide +kernel
theorem dX10_undo_42 : decode cX10_undo 42 = .ok (.aload_n 0, 1) := by decide +kernel
theorem dX10_undo_43 : decode cX10_undo 43 = .ok (.getfield 46, 3) := by decide +kernel
theorem dX10_undo_46 : decode cX10_undo 46 = .ok (.imul, 1) := by decide +kernel
theorem dX10_undo_47 : decode cX10_undo 47 = .ok (.iload_n 1, 1) := by decide +kernel
theorem dX10_undo_48 : decode cX10_undo 48 = .ok (.iadd, 1) := by decide +kernel
theorem dX10_undo_49 : decode cX10_undo 49 = .ok (.iaload, 1) := by decide +kernel
theorem dX10_undo_50 : decode cX10_undo 50 = .ok (.iastore, 1) := by decide +kernel
theorem dX10_undo_51 : decode cX10_undo 51 = .ok (.iinc 1 1, 3) := by decide +kernel
theorem dX10_undo_54 : decode cX10_undo 54 = .ok (.goto (-31), 3) := by decide +kernel
theorem dX10_undo_57 : decode cX10_undo 57 = .ok (.aload_n 0, 1) := by decide +kernel
theorem dX10_undo_58 : decode cX10_undo 58 = .ok (.getfield 46, 3) := by decide +kernel
theorem dX10_undo_61 : decode cX10_undo 61 = .ok (.ireturn, 1) := by decide +kernel
theorem dX10_fingerprint_0 : decode cX10_fingerprint 0 = .ok (.ldc2_w 167, 3) := by decide +kernel
theorem dX10_fingerprint_3 : decode cX10_fingerprint 3 = .ok (.aload_n 0, 1) := by decide +kernel
theorem dX10_fingerprint_4 : decode cX10_fingerprint 4 = .ok (.getfield 7, 3) := by decide +kernel
theorem dX10_fingerprint_7 : decode cX10_fingerprint 7 = .ok (.iconst 0, 1) := by decide +kernel
theorem dX10_fingerprint_8 : decode cX10_fingerprint 8 = .ok (.iaload, 1) := by decide +kernel
theorem dX10_fingerprint_9 : decode cX10_fingerprint 9 = .ok (.i2l, 1) := by decide +kernel
theorem dX10_fingerprint_10 : decode cX10_fingerprint 10 = .ok (.ladd, 1) := by decide +kernel
theorem dX10_fingerprint_11 : decode cX10_fingerprint 11 = .ok (.lstore_n 1, 1) := by decide +kernel
theorem dX10_fingerprint_12 : decode cX10_fingerprint 12 = .ok (.iconst 0, 1) := by decide +kernel
theorem dX10_fingerprint_13 : decode cX10_fingerprint 13 = .ok (.istore_n 3, 1) := by decide +kernel
theorem dX10_fingerprint_14 : decode cX10_fingerprint 14 = .ok (.iload_n 3, 1) := by decide +kernel
theorem dX10_fingerprint_15 : decode cX10_fingerprint 15 = .ok (.iconst 5, 1) := by decide +kernel
theorem dX10_fingerprint_16 : decode cX10_fingerprint 16 = .ok (.aload_n 0, 1) := by decide +kernel
theorem dX10_fingerprint_17 : decode cX10_fingerprint 17 = .ok (.getfield 7, 3) := by decide +kernel
theorem dX10_fingerprint_20 : decode cX10_fingerprint 20 = .ok (.iconst 0, 1) := by decide +kernel
theorem dX10_fingerprint_21 : decode cX10_fingerprint 21 = .ok (.iaload, 1) := by decide +kernel
theorem dX10_fingerprint_22 : decode cX10_fingerprint 22 = .ok (.imul, 1) := by decide +kernel
theorem dX10_fingerprint_23 : decode cX10_fingerprint 23 = .ok (.if_icmp .ge 26, 3) := by decide +kernel
theorem dX10_fingerprint_26 : decode cX10_fingerprint 26 = .ok (.ldc2_w 169, 3) := by decide +kernel
theorem dX10_fingerprint_29 : decode cX10_fingerprint 29 = .ok (.lload_n 1, 1) := by decide +kernel
theorem dX10_fingerprint_30 : decode cX10_fingerprint 30 = .ok (.lmul, 1) := by decide +kernel
theorem dX10_fingerprint_31 : decode cX10_fingerprint 31 = .ok (.aload_n 0, 1) := by decide +kernel
theorem dX10_fingerprint_32 : decode cX10_fingerprint 32 = .ok (.getfield 7, 3) := by decide +kernel
theorem dX10_fingerprint_35 : decode cX10_fingerprint 35 = .ok (.bipush 10, 2) := by decide +kernel
theorem dX10_fingerprint_37 : decode cX10_fingerprint 37 = .ok (.iload_n 3, 1) := by decide +kernel
theorem dX10_fingerprint_38 : decode cX10_fingerprint 38 = .ok (.iadd, 1) := by decide +kernel
theorem dX10_fingerprint_39 : decode cX10_fingerprint 39 = .ok (.iaload, 1) := by decide +kernel
theorem dX10_fingerprint_40 : decode cX10_fingerprint 40 = .ok (.i2l, 1) := by decide +kernel
theorem dX10_fingerprint_41 : decode cX10_fingerprint 41 = .ok (.ladd, 1) := by decide +kernel
theorem dX10_fingerprint_42 : decode cX10_fingerprint 42 = .ok (.lstore_n 1, 1) := by decide +kernel
theorem dX10_fingerprint_43 : decode cX10_fingerprint 43 = .ok (.iinc 3 1, 3) := by decide +kernel
theorem dX10_fingerprint_46 : decode cX10_fingerprint 46 = .ok (.goto (-32), 3) := by decide +kernel
theorem dX10_fingerprint_49 : decode cX10_fingerprint 49 = .ok (.ldc2_w 169, 3) := by decide +kernel
theorem dX10_fingerprint_52 : decode cX10_fingerprint 52 = .ok (.lload_n 1, 1) := by decide +kernel
theorem dX10_fingerprint_53 : decode cX10_fingerprint 53 = .ok (.lmul, 1) := by decide +kernel
theorem dX10_fingerprint_54 : decode cX10_fingerprint 54 = .ok (.aload_n 0, 1) := by decide +kernel
theorem dX10_fingerprint_55 : decode cX10_fingerprint 55 = .ok (.getfield 7, 3) := by decide +kernel
theorem dX10_fingerprint_58 : decode cX10_fingerprint 58 = .ok (.iconst 1, 1) := by decide +kernel
theorem dX10_fingerprint_59 : decode cX10_fingerprint 59 = .ok (.iaload, 1) := by decide +kernel
theorem dX10_fingerprint_60 : decode cX10_fingerprint 60 = .ok (.i2l, 1) := by decide +kernel
theorem dX10_fingerprint_61 : decode cX10_fingerprint 61 = .ok (.ladd, 1) := by decide +kernel
theorem dX10_fingerprint_62 : decode cX10_fingerprint 62 = .ok (.lstore_n 1, 1) := by decide +kernel
theorem dX10_fingerprint_63 : decode cX10_fingerprint 63 = .ok (.iconst 0, 1) := by decide +kernel
theorem dX10_fingerprint_64 : decode cX10_fingerprint 64 = .ok (.istore_n 3, 1) := by decide +kernel
theorem dX10_fingerprint_65 : decode cX10_fingerprint 65 = .ok (.iload_n 3, 1) := by decide +kernel
theorem dX10_fingerprint_66 : decode cX10_fingerprint 66 = .ok (.aload_n 0, 1) := by decide +kernel
theorem dX10_fingerprint_67 : decode cX10_fingerprint 67 = .ok (.getfield 7, 3) := by decide +kernel
theorem dX10_fingerprint_70 : decode cX10_fingerprint 70 = .ok (.iconst 1, 1) := by decide +kernel
theorem dX10_fingerprint_71 : decode cX10_fingerprint 71 = .ok (.iaload, 1) := by decide +kernel
theorem dX10_fingerprint_72 : decode cX10_fingerprint 72 = .ok (.if_icmp .ge 81, 3) := by decide +kernel
theorem dX10_fingerprint_75 : decode cX10_fingerprint 75 = .ok (.aload_n 0, 1) := by decide +kernel
theorem dX10_fingerprint_76 : decode cX10_fingerprint 76 = .ok (.iload_n 3, 1) := by decide +kernel
theorem dX10_fingerprint_77 : decode cX10_fingerprint 77 = .ok (.invokevirtual 106, 3) := by decide +kernel
theorem dX10_fingerprint_80 : decode cX10_fingerprint 80 = .ok (.aload_n 0, 1) := by decide +kernel
theorem dX10_fingerprint_81 : decode cX10_fingerprint 81 = .ok (.invokevirtual 109, 3) := by decide +kernel
theorem dX10_fingerprint_84 : decode cX10_fingerprint 84 = .ok (.iconst 0, 1) := by decide +kernel
theorem dX10_fingerprint_85 : decode cX10_fingerprint 85 = .ok (.istore 4, 2) := by decide +kernel
theorem dX10_fingerprint_87 : decode cX10_fingerprint 87 = .ok (.iload 4, 2) := by decide +kernel
theorem dX10_fingerprint_89 : decode cX10_fingerprint 89 = .ok (.aload_n 0, 1) := by decide +kernel
theorem dX10_fingerprint_90 : decode cX10_fingerprint 90 = .ok (.getfield 7, 3) := by decide +kernel
theorem dX10_fingerprint_93 : decode cX10_fingerprint 93 = .ok (.iconst 0, 1) := by decide +kernel
theorem dX10_fingerprint_94 : decode cX10_fingerprint 94 = .ok (.iaload, 1) := by decide +kernel
theorem dX10_fingerprint_95 : decode cX10_fingerprint 95 = .ok (.if_icmp .ge 40, 3) := by decide +kernel
theorem dX10_fingerprint_98 : decode cX10_fingerprint 98 = .ok (.iconst 0, 1) := by decide +kernel
theorem dX10_fingerprint_99 : decode cX10_fingerprint 99 = .ok (.istore 5, 2) := by decide +kernel
theorem dX10_fingerprint_101 : decode cX10_fingerprint 101 = .ok (.iload 5, 2) := by decide +kernel
theorem dX10_fingerprint_103 : decode cX10_fingerprint 103 = .ok (.iconst 4, 1) := by decide +kernel
theorem dX10_fingerprint_104 : decode cX10_fingerprint 104 = .ok (.if_icmp .ge 25, 3) := by decide +kernel
theorem dX10_fingerprint_107 : decode cX10_fingerprint 107 = .ok (.ldc2_w 169, 3) := by decide +kernel
theorem dX10_fingerprint_110 : decode cX10_fingerprint 110 = .ok (.lload_n 1, 1) := by decide +kernel
theorem dX10_fingerprint_111 : decode cX10_fingerprint 111 = .ok (.lmul, 1) := by decide +kernel
theorem dX10_fingerprint_112 : decode cX10_fingerprint 112 = .ok (.aload_n 0, 1) := by decide +kernel
theorem dX10_fingerprint_113 : decode cX10_fingerprint 113 = .ok (.iload 4, 2) := by decide +kernel
theorem dX10_fingerprint_115 : decode cX10_fingerprint 115 = .ok (.iload 5, 2) := by decide +kernel
theorem dX10_fingerprint_117 : decode cX10_fingerprint 117 = .ok (.invokevirtual 112, 3) := by decide +kernel
theorem dX10_fingerprint_120 : decode cX10_fingerprint 120 = .ok (.i2l, 1) := by decide +kernel
theorem dX10_fingerprint_121 : decode cX10_fingerprint 121 = .ok (.ladd, 1) := by decide +kernel
theorem dX10_fingerprint_122 : decode cX10_fingerprint 122 = .ok (.lstore_n 1, 1) := by decide +kernel
theorem dX10_fingerprint_123 : decode cX10_fingerprint 123 = .ok (.iinc 5 1, 3) := by decide +kernel
theorem dX10_fingerprint_126 : decode cX10_fingerprint 126 = .ok (.goto (-25), 3) := by decide +kernel
theorem dX10_fingerprint_129 : decode cX10_fingerprint 129 = .ok (.iinc 4 1, 3) := by decide +kernel
theorem dX10_fingerprint_132 : decode cX10_fingerprint 132 = .ok (.goto (-45), 3) := by decide +kernel
theorem dX10_fingerprint_135 : decode cX10_fingerprint 135 = .ok (.ldc2_w 169, 3) := by decide +kernel
theorem dX10_fingerprint_138 : decode cX10_fingerprint 138 = .ok (.lload_n 1, 1) := by decide +kernel
theorem dX10_fingerprint_139 : decode cX10_fingerprint 139 = .ok (.lmul, 1) := by decide +kernel
theorem dX10_fingerprint_140 : decode cX10_fingerprint 140 = .ok (.aload_n 0, 1) := by decide +kernel
theorem dX10_fingerprint_141 : decode cX10_fingerprint 141 = .ok (.getfield 98, 3) := by decide +kernel
theorem dX10_fingerprint_144 : decode cX10_fingerprint 144 = .ok (.i2l, 1) := by decide +kernel
theorem dX10_fingerprint_145 : decode cX10_fingerprint 145 = .ok (.ladd, 1) := by decide +kernel
theorem dX10_fingerprint_146 : decode cX10_fingerprint 146 = .ok (.lstore_n 1, 1) := by decide +kernel
theorem dX10_fingerprint_147 : decode cX10_fingerprint 147 = .ok (.iinc 3 1, 3) := by decide +kernel
theorem dX10_fingerprint_150 : decode cX10_fingerprint 150 = .ok (.goto (-85), 3) := by decide +kernel
theorem dX10_fingerprint_153 : decode cX10_fingerprint 153 = .ok (.ldc2_w 169, 3) := by decide +kernel
theorem dX10_fingerprint_156 : decode cX10_fingerprint 156 = .ok (.lload_n 1, 1) := by decide +kernel
theorem dX10_fingerprint_157 : decode cX10_fingerprint 157 = .ok (.lmul, 1) := by decide +kernel
theorem dX10_fingerprint_158 : decode cX10_fingerprint 158 = .ok (.aload_n 0, 1) := by decide +kernel
theorem dX10_fingerprint_159 : decode cX10_fingerprint 159 = .ok (.getfield 7, 3) := by decide +kernel
theorem dX10_fingerprint_162 : decode cX10_fingerprint 162 = .ok (.iconst 3, 1) := by decide +kernel
theorem dX10_fingerprint_163 : decode cX10_fingerprint 163 = .ok (.iaload, 1) := by decide +kernel
theorem dX10_fingerprint_164 : decode cX10_fingerprint 164 = .ok (.i2l, 1) := by decide +kernel
theorem dX10_fingerprint_165 : decode cX10_fingerprint 165 = .ok (.ladd, 1) := by decide +kernel
theorem dX10_fingerprint_166 : decode cX10_fingerprint 166 = .ok (.lstore_n 1, 1) := by decide +kernel
theorem dX10_fingerprint_167 : decode cX10_fingerprint 167 = .ok (.iconst 0, 1) := by decide +kernel
theorem dX10_fingerprint_168 : decode cX10_fingerprint 168 = .ok (.istore_n 3, 1) := by decide +kernel
theorem dX10_fingerprint_169 : decode cX10_fingerprint 169 = .ok (.iload_n 3, 1) := by decide +kernel
theorem dX10_fingerprint_170 : decode cX10_fingerprint 170 = .ok (.aload_n 0, 1) := by decide +kernel
theorem dX10_fingerprint_171 : decode cX10_fingerprint 171 = .ok (.getfield 7, 3) := by decide +kernel
theorem dX10_fingerprint_174 : decode cX10_fingerprint 174 = .ok (.iconst 3, 1) := by decide +kernel
theorem dX10_fingerprint_175 : decode cX10_fingerprint 175 = .ok (.iaload, 1) := by decide +kernel
theorem dX10_fingerprint_176 : decode cX10_fingerprint 176 = .ok (.if_icmp .ge 74, 3) := by decide +kernel
theorem dX10_fingerprint_179 : decode cX10_fingerprint 179 = .ok (.iconst 0, 1) := by decide +kernel
theorem dX10_fingerprint_180 : decode cX10_fingerprint 180 = .ok (.istore 4, 2) := by decide +kernel
theorem dX10_fingerprint_182 : decode cX10_fingerprint 182 = .ok (.iload 4, 2) := by decide +kernel
theorem dX10_fingerprint_184 : decode cX10_fingerprint 184 = .ok (.iconst 5, 1) := by decide +kernel
theorem dX10_fingerprint_185 : decode cX10_fingerprint 185 = .ok (.if_icmp .ge 24, 3) := by decide +kernel
theorem dX10_fingerprint_188 : decode cX10_fingerprint 188 = .ok (.ldc2_w 169, 3) := by decide +kernel
theorem dX10_fingerprint_191 : decode cX10_fingerprint 191 = .ok (.lload_n 1, 1) := by decide +kernel
theorem dX10_fingerprint_192 : decode cX10_fingerprint 192 = .ok (.lmul, 1) := by decide +kernel
theorem dX10_fingerprint_193 : decode cX10_fingerprint 193 = .ok (.aload_n 0, 1) := by decide +kernel
theorem dX10_fingerprint_194 : decode cX10_fingerprint 194 = .ok (.iload_n 3, 1) := by decide +kernel
theorem dX10_fingerprint_195 : decode cX10_fingerprint 195 = .ok (.iload 4, 2) := by decide +kernel
theorem dX10_fingerprint_197 : decode cX10_fingerprint 197 = .ok (.invokevirtual 154, 3) := by decide +kernel
theorem dX10_fingerprint_200 : decode cX10_fingerprint 200 = .ok (.i2l, 1) := by decide +kernel
theorem dX10_fingerprint_201 : decode cX10_fingerprint 201 = .ok (.ladd, 1) := by decide +kernel
theorem dX10_fingerprint_202 : decode cX10_fingerprint 202 = .ok (.lstore_n 1, 1) := by decide +kernel
theorem dX10_fingerprint_203 : decode cX10_fingerprint 203 = .ok (.iinc 4 1, 3) := by decide +kernel
theorem dX10_fingerprint_206 : decode cX10_fingerprint 206 = .ok (.goto (-24), 3) := by decide +kernel
theorem dX10_fingerprint_209 : decode cX10_fingerprint 209 = .ok (.iconst 0, 1) := by decide +kernel
theorem dX10_fingerprint_210 : decode cX10_fingerprint 210 = .ok (.istore 4, 2) := by decide +kernel
theorem dX10_fingerprint_212 : decode cX10_fingerprint 212 = .ok (.iload 4, 2) := by decide +kernel
theorem dX10_fingerprint_214 : decode cX10_fingerprint 214 = .ok (.aload_n 0, 1) := by decide +kernel
theorem dX10_fingerprint_215 : decode cX10_fingerprint 215 = .ok (.getfield 7, 3) := by decide +kernel
theorem dX10_fingerprint_218 : decode cX10_fingerprint 218 = .ok (.iconst 0, 1) := by decide +kernel
theorem dX10_fingerprint_219 : decode cX10_fingerprint 219 = .ok (.iaload, 1) := by decide +kernel
theorem dX10_fingerprint_220 : decode cX10_fingerprint 220 = .ok (.if_icmp .ge 24, 3) := by decide +kernel
theorem dX10_fingerprint_223 : decode cX10_fingerprint 223 = .ok (.ldc2_w 169, 3) := by decide +kernel
theorem dX10_fingerprint_226 : decode cX10_fingerprint 226 = .ok (.lload_n 1, 1) := by decide +kernel
theorem dX10_fingerprint_227 : decode cX10_fingerprint 227 = .ok (.lmul, 1) := by decide +kernel
theorem dX10_fingerprint_228 : decode cX10_fingerprint 228 = .ok (.aload_n 0, 1) := by decide +kernel
theorem dX10_fingerprint_229 : decode cX10_fingerprint 229 = .ok (.iload_n 3, 1) := by decide +kernel
theorem dX10_fingerprint_230 : decode cX10_fingerprint 230 = .ok (.iload 4, 2) := by decide +kernel
theorem dX10_fingerprint_232 : decode cX10_fingerprint 232 = .ok (.invokevirtual 157, 3) := by decide +kernel
theorem dX10_fingerprint_235 : decode cX10_fingerprint 235 = .ok (.i2l, 1) := by decide +kernel
theorem dX10_fingerprint_236 : decode cX10_fingerprint 236 = .ok (.ladd, 1) := by decide +kernel
theorem dX10_fingerprint_237 : decode cX10_fingerprint 237 = .ok (.lstore_n 1, 1) := by decide +kernel
theorem dX10_fingerprint_238 : decode cX10_fingerprint 238 = .ok (.iinc 4 1, 3) := by decide +kernel
theorem dX10_fingerprint_241 : decode cX10_fingerprint 241 = .ok (.goto (-29), 3) := by decide +kernel
theorem dX10_fingerprint_244 : decode cX10_fingerprint 244 = .ok (.iinc 3 1, 3) := by decide +kernel
theorem dX10_fingerprint_247 : decode cX10_fingerprint 247 = .ok (.goto (-78), 3) := by decide +kernel
theorem dX10_fingerprint_250 : decode cX10_fingerprint 250 = .ok (.lload_n 1, 1) := by decide +kernel
theorem dX10_fingerprint_251 : decode cX10_fingerprint 251 = .ok (.lreturn, 1) := by decide +kernel
